def s_dn : Nat → Int32
  | 0 => -1
  | k + 1 => nI k
theorem s_dn_1 : ∀ {k : Nat}, k < 2 ^ 31 → nI k + (-1 : Int32) = s_dn k
  | 0, _ => rfl
  | k + 1, h => i_p1m h
def fTb (σ : xSg) (T : sTb) (la lb : Nat) (P : Nat → Nat → Prop) : Prop := ∀ i j, i ≤ la → j ≤ lb → P i j → σ 36 (11 * i + j) = (T i j).1 ∧ σ 37 (11 * i + j) = (T i j).2.1
def s_fre (v : sV) (wh : Int32) : Int32 := if wh < 0 ∨ 3 < wh then -2 else if wh = 0 then v.1 else if wh = 1 then v.2.1 else if wh = 2 then v.2.2.1 else v.2.2.2
set_option maxRecDepth 100000 in
theorem c_crun_in (σ : xSg) (n : Nat) (hok : aOk (atC σ) n) (hn : σ 1 0 = nI n) (A B : List Nat) (hA : laneL n (σ 1 1) (σ 7) 0 = A) (hB : laneL n (σ 1 1) (σ 7) 1 = B) (i : Nat) (hi : i ≤ A.length) (kK : ∀ σ2 : xSg, σ2 35 0 = nI A.length → σ2 35 1 = nI B.length → xFr scC σ σ2 → fTb σ2 (s_T (atC σ) (tkC σ) A B) A.length B.length (fun i2 _ => i ≤ i2) → cV σ2 ((s_T (atC σ) (tkC σ) A B) i 0) → xEv (.inl 4) M_X1_run (fun r σ2 => r = none ∧ cV σ2 ((s_T (atC σ) (tkC σ) A B) 0 0) ∧ xFr scC σ σ2) 61 ([some (.ref 34), some (.int (nI i)), none], [], σ2)) : ∀ (c : Nat) (σ1 : xSg), c ≤ B.length + 1 → σ1 35 0 = nI A.length → σ1 35 1 = nI B.length → xFr scC σ σ1 → fTb σ1 (s_T (atC σ) (tkC σ) A B) A.length B.length (fun i2 j2 => i < i2 ∨ (i2 = i ∧ c ≤ j2)) → (c ≤ B.length → cV σ1 ((s_T (atC σ) (tkC σ) A B) i c)) → xEv (.inl 4) M_X1_run (fun r σ2 => r = none ∧ cV σ2 ((s_T (atC σ) (tkC σ) A B) 0 0) ∧ xFr scC σ σ2) 45 ([some (.ref 34), some (.int (nI i)), some (.int (s_dn c))], [], σ1) := by
  have hlen : A.length + B.length ≤ 10 := by rw [← hA, ← hB]; exact laneL_len
  intro c
  induction c with
  | zero =>
    intro σ1 hc h0 h1 hfr hT hv
    refine ev_br 1 [] ((s_dn 0) < 0) 61 49 ([some (.ref 34), some (.int (nI i)), some (.int (s_dn 0))], [], σ1) rfl ?_ (fun c46 => ?_) (fun c46 => ?_)
    · trivial
    · refine ev_drop 2 ?_
      refine kK σ1 h0 h1 hfr (fun i2 j2 a b z => hT i2 j2 a b ?_) (hv (Nat.zero_le _))
      rcases Nat.lt_or_ge i i2 with q | q
      · exact Or.inl q
      · exact Or.inr ⟨Nat.le_antisymm q z, Nat.zero_le _⟩
    · exact absurd (show s_dn 0 < 0 by decide) c46
  | succ c ih =>
    intro σ1 hc h0 h1 hfr hT hv
    show xEv _ _ _ 45 ([some (.ref 34), some (.int (nI i)), some (.int (nI c))], [], σ1)
    have at1 : atC σ1 = atC σ := by unfold atC; rw [hfr 2 (by decide), hfr 3 (by decide), hfr 4 (by decide), hfr 5 (by decide), hfr 6 (by decide), hfr 7 (by decide), hfr 9 (by decide)]
    have tk1 : tkC σ1 = tkC σ := by unfold tkC; rw [hfr 10 (by decide)]
    have hn1 : σ1 1 0 = nI n := (congrFun (hfr 1 (by decide)) 0).trans hn
    refine ev_br 1 [] ((nI c) < 0) 61 49 ([some (.ref 34), some (.int (nI i)), some (.int (nI c))], [], σ1) rfl ?_ (fun c46 => ?_) (fun c46 => ?_)
    · trivial
    · exact absurd c46 (nI_pos (by omega))
    · refine ev_blk 3 [] 52 ([some (.ref 34), some (.int (nI i)), some (.int (nI c))], [.int (nI c), .int (nI i), .ref 34], σ1) rfl ?_ ?_
      · trivial
      refine ev_callV M_X1_settle [.int (nI i), .int (nI c)] [] 34 rfl rfl ln_X1_43 k_X1_settle rfl rfl rfl rfl rfl rfl (c_settle (A := A) (B := B) σ1 n (by rw [at1]; exact hok) hn1 h0 h1 (by rw [hfr 1 (by decide), hfr 7 (by decide)]; exact hA) (by rw [hfr 1 (by decide), hfr 7 (by decide)]; exact hB) i c hi (by omega) (s_T (atC σ) (tkC σ) A B) (fun p q hp hq z => hT (i + p) (c + q) (by omega) (by omega) (by omega))) ?_
      rintro r σ2 ⟨rfl, hc2, h36, h37, hf2⟩
      rw [at1, tk1, ← s_T_eq hlen hi (by omega)] at hc2 h36 h37
      show xEv _ _ _ 55 ([some (.ref 34), some (.int (nI i)), some (.int (nI c))], [], σ2)
      refine ev_blk 2 [] 45 ([some (.ref 34), some (.int (nI i)), some (.int ((nI c) + (-1 : Int32)))], [], σ2) rfl ?_ ?_
      · trivial
      rw [s_dn_1 (by omega)]
      refine ih σ2 (by omega) (by rw [hf2 35 (by decide)]; exact h0) (by rw [hf2 35 (by decide)]; exact h1) (fun d hd => (hf2 d (fun z => hd (by revert z; simp only [List.mem_cons, List.not_mem_nil, or_false]; rintro (rfl | rfl | rfl | rfl | rfl | rfl | rfl | rfl | rfl | rfl | rfl | rfl | rfl) <;> decide))).trans (hfr d hd)) (fun i2 j2 a b z => ?_) (fun _ => hc2)
      rw [h36, h37]
      by_cases e : i2 = i ∧ j2 = c
      · rw [e.1, e.2, upd_eq, upd_eq]; exact ⟨rfl, rfl⟩
      · rw [upd_ne (by omega), upd_ne (by omega)]
        exact hT i2 j2 a b (by omega)
set_option maxRecDepth 100000 in
theorem c_crun_lp (σ : xSg) (n : Nat) (hok : aOk (atC σ) n) (hn : σ 1 0 = nI n) (A B : List Nat) (hA : laneL n (σ 1 1) (σ 7) 0 = A) (hB : laneL n (σ 1 1) (σ 7) 1 = B) : ∀ (k : Nat) (σ1 : xSg), k ≤ A.length + 1 → σ1 35 0 = nI A.length → σ1 35 1 = nI B.length → xFr scC σ σ1 → fTb σ1 (s_T (atC σ) (tkC σ) A B) A.length B.length (fun i2 _ => k ≤ i2) → (k ≤ A.length → cV σ1 ((s_T (atC σ) (tkC σ) A B) k 0)) → xEv (.inl 4) M_X1_run (fun r σ2 => r = none ∧ cV σ2 ((s_T (atC σ) (tkC σ) A B) 0 0) ∧ xFr scC σ σ2) 34 ([some (.ref 34), some (.int (s_dn k)), none], [], σ1) := by
  have hlen : A.length + B.length ≤ 10 := by rw [← hA, ← hB]; exact laneL_len
  intro k
  induction k with
  | zero =>
    intro σ1 hk h0 h1 hfr hT hv
    refine ev_br 1 [] ((s_dn 0) < 0) 67 38 ([some (.ref 34), some (.int (s_dn 0)), none], [], σ1) rfl ?_ (fun c35 => ?_) (fun c35 => ?_)
    · trivial
    · exact ev_vret rfl rfl ⟨rfl, hv (Nat.zero_le _), hfr⟩
    · exact absurd (show s_dn 0 < 0 by decide) c35
  | succ k ih =>
    intro σ1 hk h0 h1 hfr hT hv
    show xEv _ _ _ 34 ([some (.ref 34), some (.int (nI k)), none], [], σ1)
    refine ev_br 1 [] ((nI k) < 0) 67 38 ([some (.ref 34), some (.int (nI k)), none], [], σ1) rfl ?_ (fun c35 => ?_) (fun c35 => ?_)
    · trivial
    · exact absurd c35 (nI_pos (by omega))
    · refine ev_blk 5 [vp_in ((1 : Int32)) 2] 45 ([some (.ref 34), some (.int (nI k)), some (.int ((σ1 35) 1))], [], σ1) rfl ?_ ?_
      · exact vp_in_nI (n := 1) (by decide) (by decide)
      rw [h1]
      refine c_crun_in σ n hok hn A B hA hB k (by omega) (fun σ2 k0 k1 kfr kT kv => ?_) (B.length + 1) σ1 (Nat.le_refl _) h0 h1 hfr (fun i2 j2 a b z => hT i2 j2 a b (by omega)) (fun z => absurd z (by omega))
      refine ev_blk 2 [] 34 ([some (.ref 34), some (.int ((nI k) + (-1 : Int32))), none], [], σ2) rfl ?_ ?_
      · trivial
      rw [s_dn_1 (by omega)]
      exact ih σ2 (by omega) k0 k1 kfr kT (fun _ => kv)
set_option maxRecDepth 100000 in
theorem c_crun (σ : xSg) (n : Nat) (hok : aOk (atC σ) n) (hn : σ 1 0 = nI n) (A B : List Nat) (hA : laneL n (σ 1 1) (σ 7) 0 = A) (hB : laneL n (σ 1 1) (σ 7) 1 = B) : xCtr M_X1_run [.ref 34] σ (fun r σ2 => r = none ∧ cV σ2 ((s_T (atC σ) (tkC σ) A B) 0 0) ∧ xFr scC σ σ2) := by
  refine ctr_ev ok_X1_run (by decide +kernel) rfl rfl rfl ?_
  show xEv (.inl 4) M_X1_run _ 0 ([some (.ref 34), none, none], [], σ)
  have hn10 := hok.1
  have hlen : A.length + B.length ≤ 10 := by rw [← hA, ← hB]; exact laneL_len
  refine ev_br 4 [] ((2 : Int32) ≤ (0 : Int32)) 27 7 ([some (.ref 34), some (.int ((0 : Int32))), none], [], σ) rfl ?_ (fun c4 => ?_) (fun c4 => ?_)
  · trivial
  · exact absurd c4 (by decide)
  · refine ev_blk 6 [] 17 ([some (.ref 34), some (.int ((0 : Int32))), none], [.int ((0 : Int32)), .ref 1, .int ((0 : Int32)), .ref 35], σ) rfl ?_ ?_
    · trivial
    refine ev_callV M_X3_waitersOf [.int ((0 : Int32))] [.int ((0 : Int32)), .ref 35] 1 rfl rfl ln_X1_37 k_X3_waitersOf rfl rfl rfl rfl rfl rfl (c_waitersOf _ n _ hn10 hn) ?_
    refine pu_k ?_
    rw [show (List.range 10).filter (s_lnp n (σ 1 1) (σ 7) 0) = A from hA]
    show xEv _ _ _ 20 ([some (.ref 34), some (.int ((0 : Int32))), none], [.int (nI A.length), .int ((0 : Int32)), .ref 35], σ)
    refine ev_br 5 [vp_in ((0 : Int32)) 2] ((2 : Int32) ≤ (1 : Int32)) 27 7 ([some (.ref 34), some (.int ((1 : Int32))), none], [], (x_up σ 35 (upd (σ 35) 0 (nI A.length)))) rfl ?_ (fun c4 => ?_) (fun c4 => ?_)
    · exact vp_in_nI (n := 0) (by decide) (by decide)
    · exact absurd c4 (by decide)
    · refine ev_blk 6 [] 17 ([some (.ref 34), some (.int ((1 : Int32))), none], [.int ((1 : Int32)), .ref 1, .int ((1 : Int32)), .ref 35], (x_up σ 35 (upd (σ 35) 0 (nI A.length)))) rfl ?_ ?_
      · trivial
      refine ev_callV M_X3_waitersOf [.int ((1 : Int32))] [.int ((1 : Int32)), .ref 35] 1 rfl rfl ln_X1_37 k_X3_waitersOf rfl rfl rfl rfl rfl rfl (c_waitersOf _ n _ hn10 hn) ?_
      refine pu_k ?_
      rw [show (List.range 10).filter (s_lnp n ((x_up σ 35 (upd (σ 35) 0 (nI A.length))) 1 1) ((x_up σ 35 (upd (σ 35) 0 (nI A.length))) 7) 1) = B from hB]
      show xEv _ _ _ 20 ([some (.ref 34), some (.int ((1 : Int32))), none], [.int (nI B.length), .int ((1 : Int32)), .ref 35], (x_up σ 35 (upd (σ 35) 0 (nI A.length))))
      refine ev_br 5 [vp_in ((1 : Int32)) 2] ((2 : Int32) ≤ (2 : Int32)) 27 7 ([some (.ref 34), some (.int ((2 : Int32))), none], [], (x_up (x_up σ 35 (upd (σ 35) 0 (nI A.length))) 35 (upd (upd (σ 35) 0 (nI A.length)) 1 (nI B.length)))) rfl ?_ (fun c4 => ?_) (fun c4 => ?_)
      · exact vp_in_nI (n := 1) (by decide) (by decide)
      · refine ev_blk 5 [vp_in ((0 : Int32)) 2] 34 ([some (.ref 34), some (.int ((upd (upd (σ 35) 0 (nI A.length)) 1 (nI B.length)) 0)), none], [], (x_up (x_up σ 35 (upd (σ 35) 0 (nI A.length))) 35 (upd (upd (σ 35) 0 (nI A.length)) 1 (nI B.length)))) rfl ?_ ?_
        · exact vp_in_nI (n := 0) (by decide) (by decide)
        have e0 : (x_up (x_up σ 35 (upd (σ 35) 0 (nI A.length))) 35 (upd (upd (σ 35) 0 (nI A.length)) 1 (nI B.length))) 35 0 = nI A.length := by simp [x_up, upd]
        have e1 : (x_up (x_up σ 35 (upd (σ 35) 0 (nI A.length))) 35 (upd (upd (σ 35) 0 (nI A.length)) 1 (nI B.length))) 35 1 = nI B.length := by simp [x_up, upd]
        skip
        exact c_crun_lp σ n hok hn A B hA hB (A.length + 1) _ (Nat.le_refl _) e0 e1 (fun c hc => by have h35 : c ≠ 35 := fun z => hc (by rw [z]; decide)
                                                                                                    simp [x_up, h35]) (fun i2 j2 a b z => absurd z (by omega)) (fun z => absurd z (by omega))
      · exact absurd (by decide) c4
set_option maxRecDepth 100000 in
theorem c_freely (σ : xSg) (n : Nat) (hok : aOk (atC σ) n) (hn : σ 1 0 = nI n) (wh : Int32) : xCtr M_X5_freely [.ref 0, .int (wh)] σ (fun r σ2 => r = some (.int (s_fre (s_T (atC σ) (tkC σ) (laneL n (σ 1 1) (σ 7) 0) (laneL n (σ 1 1) (σ 7) 1) 0 0) wh)) ∧ xFr scC σ σ2) := by
  refine ctr_ev ok_X5_freely (by decide +kernel) rfl rfl rfl ?_
  show xEv (.inl 5) M_X5_freely _ 0 ([some (.ref 0), some (.int (wh))], [], σ)
  refine ev_br 1 [] (wh < 0) 9 4 ([some (.ref 0), some (.int (wh))], [], σ) rfl ?_ (fun c1 => ?_) (fun c1 => ?_)
  · trivial
  · refine ev_blk 1 [] 11 ([some (.ref 0), some (.int (wh))], [.int ((-2 : Int32))], σ) rfl ?_ ?_
    · trivial
    exact ev_iret rfl rfl rfl ⟨by rw [s_fre, if_pos (Or.inl c1)], xFr.rf⟩
  · refine ev_br 2 [] (wh ≤ (3 : Int32)) 12 9 ([some (.ref 0), some (.int (wh))], [], σ) rfl ?_ (fun c6 => ?_) (fun c6 => ?_)
    · trivial
    · refine ev_blk 2 [] 16 ([some (.ref 0), some (.int (wh))], [.ref 34], σ) rfl ?_ ?_
      · trivial
      refine ev_callV M_X1_run [] [] 34 rfl rfl ln_X5_216 k_X1_run rfl rfl rfl rfl rfl rfl (c_crun σ n hok hn _ _ rfl rfl) ?_
      rintro r σ1 ⟨rfl, hv, hfr⟩
      obtain ⟨v1, v2, v3, v4⟩ := hv
      show xEv _ _ _ 19 ([some (.ref 0), some (.int (wh))], [], σ1)
      refine ev_sw 1 [] (wh) [((0 : Int32), 48), ((1 : Int32), 56), ((2 : Int32), 64)] 72 ([some (.ref 0), some (.int (wh))], [], σ1) rfl ?_ ?_
      · trivial
      refine ⟨fun c20_0 => ?_, fun c20_0 => ?_⟩
      · refine ev_blk 3 [] 55 ([some (.ref 0), some (.int (wh))], [.int ((σ1 34 6))], σ1) rfl ?_ ?_
        · trivial
        exact ev_iret rfl rfl rfl ⟨by rw [s_fre, if_neg (by rintro (q | q); exact c1 q; exact absurd q (Int32.not_lt.mpr c6)), if_pos c20_0, v1], hfr⟩
      refine ⟨fun c20_1 => ?_, fun c20_1 => ?_⟩
      · refine ev_blk 3 [] 63 ([some (.ref 0), some (.int (wh))], [.int ((σ1 34 7))], σ1) rfl ?_ ?_
        · trivial
        exact ev_iret rfl rfl rfl ⟨by rw [s_fre, if_neg (by rintro (q | q); exact c1 q; exact absurd q (Int32.not_lt.mpr c6)), if_neg c20_0, if_pos c20_1, v2], hfr⟩
      refine ⟨fun c20_2 => ?_, fun c20_2 => ?_⟩
      · refine ev_blk 3 [] 71 ([some (.ref 0), some (.int (wh))], [.int ((σ1 34 8))], σ1) rfl ?_ ?_
        · trivial
        exact ev_iret rfl rfl rfl ⟨by rw [s_fre, if_neg (by rintro (q | q); exact c1 q; exact absurd q (Int32.not_lt.mpr c6)), if_neg c20_0, if_neg c20_1, if_pos c20_2, v3], hfr⟩
      show xEv _ _ _ 72 ([some (.ref 0), some (.int (wh))], [], σ1)
      refine ev_blk 3 [] 79 ([some (.ref 0), some (.int (wh))], [.int ((σ1 34 9))], σ1) rfl ?_ ?_
      · trivial
      exact ev_iret rfl rfl rfl ⟨by rw [s_fre, if_neg (by rintro (q | q); exact c1 q; exact absurd q (Int32.not_lt.mpr c6)), if_neg c20_0, if_neg c20_1, if_neg c20_2, v4], hfr⟩
    · refine ev_blk 1 [] 11 ([some (.ref 0), some (.int (wh))], [.int ((-2 : Int32))], σ) rfl ?_ ?_
      · trivial
      exact ev_iret rfl rfl rfl ⟨by rw [s_fre, if_pos (Or.inr (Int32.not_le.mp c6))], xFr.rf⟩
