theorem oi_m1 {a : sAt} {n : Nat} {bg : Nat → Option Nat} (h : bgOk a n bg) {x : Nat} : s_oi (bg x) = -1 ↔ bg x = none := by
  cases hb : bg x with
  | none => simp [s_oi]
  | some t =>
    have := (h x t hb).2.1
    simp only [reduceCtorEq, iff_false]
    exact nI_oi (by omega)
theorem oi_wt {a : sAt} {n : Nat} {bg : Nat → Option Nat} (h : bgOk a n bg) {x : Nat} (hx : ¬ s_oi (bg x) = -1) (c : Int32) : s_oi (bg x) - c = a_wt (bg x) c := by
  cases hb : bg x with
  | none => rw [hb] at hx; exact absurd rfl hx
  | some t => rfl
theorem aws_mx {f : Nat → Int32} {n : Nat} {p : Nat → Bool} (h : wOk f n p) {x : Nat} (hx : x < 10) : x_mx 0 (f x) = if p x = true then f x else 0 := by
  cases hp : p x with
  | false => rw [h.2.2 x hx hp]; decide
  | true =>
    have h1 := (h.2.1 x hx hp).2
    rw [if_pos rfl]
    unfold x_mx
    split
    · rfl
    next q => exact Int32.le_antisymm (Int32.not_lt.mp h1) (Int32.not_lt.mp q)
theorem aws_n {f : Nat → Int32} {n : Nat} {p : Nat → Bool} (h : wOk f n p) : ∀ m, n + m ≤ 10 → s_aws f (n + m) = s_aws f n
  | 0, _ => rfl
  | m + 1, hm => by
    show s_aws f (n + m) + x_mx 0 (f (n + m)) = _
    rw [aws_n h m (by omega), aws_mx h (by omega)]
    have : p (n + m) = false := by
      cases hp : p (n + m) with
      | false => rfl
      | true => have := (h.2.1 (n + m) (by omega) hp).1; omega
    rw [if_neg (by rw [this]; decide), Int32.add_zero]
set_option maxRecDepth 100000 in
theorem m_waits (σ : xSg) (n : Nat) (A B : List Nat) (hM : mOk σ n A B) (hL : LR σ A B) (hn : σ 57 0 = nI n) (w g : Int32) (hst : ∀ j, j < n → σ 64 j = s_st w g j) (x : Int32) : xCtr M_X6_waits [.ref 57, .int (x)] σ (fun r σ2 => r = some (.int (s_wts n w (σ 62) (s_ar (atM σ) (tkM σ) A B 21 0 (fun _ => none, 0, none)) x)) ∧ xFm scM scP σ σ2) := by
  refine ctr_ev ok_X6_waits (by decide +kernel) rfl rfl rfl ?_
  show xEv (.inl 5) M_X6_waits _ 0 ([some (.ref 57), some (.int (x))], [], σ)
  have hn10 := hM.1.1
  refine ev_blk 2 [] 2 ([some (.ref 57), some (.int (x))], [.int (x), .ref 57], σ) rfl ?_ ?_
  · trivial
  refine ev_callV M_X6_isShip [.int (x)] [] 57 rfl rfl ln_X6_136 k_X6_isShip rfl rfl rfl rfl rfl rfl (m_isShip _ _) ?_
  refine pu_k ?_
  show xEv _ _ _ 5 ([some (.ref 57), some (.int (x))], [.int (zi (¬ x < 0 ∧ ¬ σ 57 0 - 1 < x))], σ)
  refine ev_br 0 [] (¬ (zi (¬ x < 0 ∧ ¬ σ 57 0 - 1 < x)) = 0) 11 8 ([some (.ref 57), some (.int (x))], [], σ) rfl ?_ (fun c5 => ?_) (fun c5 => ?_)
  · trivial
  · replace c5 := zi_1.mp c5
    have hx := (show iN n x from by rw [hn] at c5; exact (mSh hn10).mp c5)
    obtain ⟨j, hj, hj31, rfl⟩ := iN_of hx
    have hjc : (nI j).toNatClampNeg = j := nI_clamp hj31
    have hin : vp_in (nI j) 10 := vp_in_nI (by omega) (by decide)
    refine ev_br 4 [vp_in (nI j) 10] (((σ 64) (nI j).toNatClampNeg) = 0) 23 20 ([some (.ref 57), some (.int (nI j))], [], σ) rfl ?_ (fun c17 => ?_) (fun c17 => ?_)
    · exact hin
    · rw [hjc] at c17
      refine ev_blk 1 [] 24 ([some (.ref 57), some (.int (nI j))], [.ref 57], σ) rfl ?_ ?_
      · trivial
      refine ev_callV M_X6_goesOn [] [] 57 rfl rfl ln_X6_193 k_X6_goesOn rfl rfl rfl rfl rfl rfl (m_goesOn σ n A B hM hL hn) ?_
      rintro r σ1 ⟨rfl, hR, hfr⟩
      have h62 : σ1 62 = σ 62 := hfr.1 62 (by decide) (by decide)
      have hn1 : σ1 57 0 = nI n := (hfr.2 0 (by decide)).trans hn
      have hbg := ar_bg (tk := tkM σ) (show laOk (atM σ) n A B from ⟨hM.1, hM.2.2⟩)
      generalize hVV : (s_ar (atM σ) (tkM σ) A B 21 0 (fun _ => none, 0, none)) = V at *
      show xEv _ _ _ 27 ([some (.ref 57), some (.int (nI j))], [], σ1)
      refine ev_br 5 [vp_in (nI j) 10] (¬ ((σ1 80) (nI j).toNatClampNeg) = (-1 : Int32)) 41 37 ([some (.ref 57), some (.int (nI j))], [], σ1) rfl ?_ (fun c34 => ?_) (fun c34 => ?_)
      · exact hin
      · rw [hjc] at c34
        refine ev_blk 9 [vp_in (nI j) 10, vp_in (nI j) 10] 54 ([some (.ref 57), some (.int (nI j))], [.int (((σ1 80) (nI j).toNatClampNeg) - ((σ1 62) (nI j).toNatClampNeg))], σ1) rfl ?_ ?_
        · exact ⟨hin, hin⟩
        rw [hjc]
        exact ev_iret rfl rfl rfl ⟨by rw [s_wts, if_neg (fun q => q hx), hjc, if_neg (by rw [st_0.mp ((hst j hj).symm.trans c17)]; decide), h62, hR.1 j (by omega), oi_wt hbg (by rw [← hR.1 j (by omega)]; exact c34)], hfr⟩
      · rw [hjc] at c34
        refine ev_blk 2 [] 54 ([some (.ref 57), some (.int (nI j))], [.int ((-1 : Int32))], σ1) rfl ?_ ?_
        · trivial
        have e1 := (oi_m1 hbg).mp ((hR.1 j (by omega)).symm.trans (Classical.byContradiction c34))
        exact ev_iret rfl rfl rfl ⟨by rw [s_wts, if_neg (fun q => q hx), hjc, if_neg (by rw [st_0.mp ((hst j hj).symm.trans c17)]; decide), e1]; rfl, hfr⟩
    · rw [hjc] at c17
      refine ev_blk 1 [] 22 ([some (.ref 57), some (.int (nI j))], [.int ((-3 : Int32))], σ) rfl ?_ ?_
      · trivial
      exact ev_iret rfl rfl rfl ⟨by rw [s_wts, if_neg (fun q => q hx), if_pos (by rw [hjc]; exact st_0f.mp (by rw [← hst j hj]; exact c17))], xFm.rf⟩
  · replace c5 := zi_n.mp c5
    refine ev_blk 1 [] 10 ([some (.ref 57), some (.int (x))], [.int ((-2 : Int32))], σ) rfl ?_ ?_
    · trivial
    exact ev_iret rfl rfl rfl ⟨by rw [s_wts, if_pos (fun q => c5 (by rw [hn]; exact (mSh hn10).mpr q))], xFm.rf⟩
set_option maxRecDepth 100000 in
theorem m_day_lp (σ1 : xSg) (n : Nat) (V : aSt) (hn : σ1 57 0 = nI n) (ff : Nat → Int32) (pp : Nat → Bool) (hw : wOk ff n pp) (hpp : ∀ x, x < n → (pp x = true ↔ ¬ σ1 80 x = -1)) (hff : ∀ x, x < n → pp x = true → σ1 80 x - σ1 62 x = ff x) (wh : Int32) (Q : Option Value → xSg → Prop) (kK : xEv (.inl 5) M_X6_day Q 60 ([some (.ref 57), some (.int (wh)), some (.int (s_aws ff n)), none], [], σ1)) : ∀ (m k : Nat), k + m = n → xEv (.inl 5) M_X6_day Q 20 ([some (.ref 57), some (.int (wh)), some (.int (s_aws ff k)), some (.int (nI k))], [], σ1) := by
  have hn10 := hw.1
  intro m
  induction m with
  | zero =>
    intro k hk
    refine ev_br 3 [] ((σ1 57 0) ≤ (nI k)) 60 28 ([some (.ref 57), some (.int (wh)), some (.int (s_aws ff k)), some (.int (nI k))], [], σ1) rfl ?_ (fun c25 => ?_) (fun c25 => ?_)
    · trivial
    · have e : k = n := by omega
      subst e
      refine ev_drop 3 ?_
      exact kK
    · exact absurd (show σ1 57 0 ≤ nI k by rw [hn]; exact nI_le (by omega) (by omega)) c25
  | succ m ih =>
    intro k hk
    have hkc : (nI k).toNatClampNeg = k := nI_clamp (by omega)
    have hmx := aws_mx hw (x := k) (by omega)
    refine ev_br 3 [] ((σ1 57 0) ≤ (nI k)) 60 28 ([some (.ref 57), some (.int (wh)), some (.int (s_aws ff k)), some (.int (nI k))], [], σ1) rfl ?_ (fun c25 => ?_) (fun c25 => ?_)
    · trivial
    · exact absurd c25 (show ¬ σ1 57 0 ≤ nI k by rw [hn]; exact nI_ge (by omega) (by omega))
    · refine ev_br 5 [vp_in (nI k) 10] (((σ1 80) (nI k).toNatClampNeg) = (-1 : Int32)) 54 38 ([some (.ref 57), some (.int (wh)), some (.int (s_aws ff k)), some (.int (nI k))], [], σ1) rfl ?_ (fun c35 => ?_) (fun c35 => ?_)
      · exact vp_in_nI (by omega) (by decide)
      · rw [hkc] at c35
        refine ev_blk 2 [] 20 ([some (.ref 57), some (.int (wh)), some (.int (s_aws ff k)), some (.int ((nI k) + (1 : Int32)))], [], σ1) rfl ?_ ?_
        · trivial
        rw [nI_1]
        have e1 : pp k = false := by
          cases hz : pp k with
          | false => rfl
          | true => exact absurd c35 ((hpp k (by omega)).mp hz)
        rw [if_neg (by rw [e1]; decide)] at hmx
        have e2 := ih (k + 1) (by omega)
        rw [s_aws, hmx, Int32.add_zero] at e2
        exact e2
      · rw [hkc] at c35
        refine ev_blk 14 [vp_in (nI k) 10, vp_in (nI k) 10] 20 ([some (.ref 57), some (.int (wh)), some (.int ((s_aws ff k) + (((σ1 80) (nI k).toNatClampNeg) - ((σ1 62) (nI k).toNatClampNeg)))), some (.int ((nI k) + (1 : Int32)))], [], σ1) rfl ?_ ?_
        · exact ⟨vp_in_nI (by omega) (by decide), vp_in_nI (by omega) (by decide)⟩
        rw [hkc]
        have hs : pp k = true := (hpp k (by omega)).mpr c35
        rw [if_pos hs] at hmx
        rw [nI_1, hff k (by omega) hs]
        have e2 := ih (k + 1) (by omega)
        rw [s_aws, hmx] at e2
        exact e2
set_option maxRecDepth 100000 in
theorem m_day (σ : xSg) (n : Nat) (A B : List Nat) (hM : mOk σ n A B) (hL : LR σ A B) (hn : σ 57 0 = nI n) (wh : Int32) : xCtr M_X6_day [.ref 57, .int (wh)] σ (fun r σ2 => r = some (.int (s_dy (σ 62) (s_ar (atM σ) (tkM σ) A B 21 0 (fun _ => none, 0, none)) wh)) ∧ xFm scM scP σ σ2) := by
  refine ctr_ev ok_X6_day (by decide +kernel) rfl rfl rfl ?_
  show xEv (.inl 5) M_X6_day _ 0 ([some (.ref 57), some (.int (wh)), none, none], [], σ)
  refine ev_blk 3 [] 3 ([some (.ref 57), some (.int (wh)), none, none], [.int ((2 : Int32)), .int ((0 : Int32)), .int (wh)], σ) rfl ?_ ?_
  · trivial
  refine ev_callS M_X6_within [.int (wh), .int ((0 : Int32)), .int ((2 : Int32))] [] rfl rfl ln_X6_110 k_X6_within rfl rfl rfl (m_within _ _ _ _) ?_
  refine pu_k ?_
  show xEv _ _ _ 6 ([some (.ref 57), some (.int (wh)), none, none], [.int (zi (¬ wh < (0 : Int32) ∧ ¬ (2 : Int32) < wh))], σ)
  refine ev_br 0 [] (¬ (zi (¬ wh < (0 : Int32) ∧ ¬ (2 : Int32) < wh)) = 0) 12 9 ([some (.ref 57), some (.int (wh)), none, none], [], σ) rfl ?_ (fun c6 => ?_) (fun c6 => ?_)
  · trivial
  · replace c6 := zi_1.mp c6
    refine ev_blk 1 [] 13 ([some (.ref 57), some (.int (wh)), none, none], [.ref 57], σ) rfl ?_ ?_
    · trivial
    refine ev_callV M_X6_goesOn [] [] 57 rfl rfl ln_X6_193 k_X6_goesOn rfl rfl rfl rfl rfl rfl (m_goesOn σ n A B hM hL hn) ?_
    rintro r σ1 ⟨rfl, hR, hfr⟩
    have h62 : σ1 62 = σ 62 := hfr.1 62 (by decide) (by decide)
    have hn1 : σ1 57 0 = nI n := (hfr.2 0 (by decide)).trans hn
    have hbg := ar_bg (tk := tkM σ) (show laOk (atM σ) n A B from ⟨hM.1, hM.2.2⟩)
    generalize hVV : (s_ar (atM σ) (tkM σ) A B 21 0 (fun _ => none, 0, none)) = V at *
    show xEv _ _ _ 16 ([some (.ref 57), some (.int (wh)), none, none], [], σ1)
    refine ev_blk 4 [] 20 ([some (.ref 57), some (.int (wh)), some (.int ((0 : Int32))), some (.int ((0 : Int32)))], [], σ1) rfl ?_ ?_
    · trivial
    have hn10 := hM.1.1
    have hpp : ∀ x, x < n → ((fun j => (V.1 j).isSome) x = true ↔ ¬ σ1 80 x = -1) := fun x hx => by
      rw [hR.1 x (by omega)]
      show (V.1 x).isSome = true ↔ _
      cases hb : V.1 x with
      | none => simp [s_oi]
      | some t =>
        simp only [Option.isSome_some, true_iff]
        exact nI_oi (by have := (hbg x t hb).2.1; omega)
    have hff : ∀ x, x < n → (fun j => (V.1 j).isSome) x = true → σ1 80 x - σ1 62 x = (fun j => a_wt (V.1 j) (σ 62 j)) x := fun x hx hp => by
      rw [hR.1 x (by omega), h62]
      show _ = a_wt (V.1 x) (σ 62 x)
      cases hb : V.1 x with
      | none => exact absurd (show (V.1 x).isSome = true from hp) (by rw [hb]; decide)
      | some t => rfl
    refine m_day_lp σ1 n V hn1 (fun j => a_wt (V.1 j) (σ 62 j)) (fun j => (V.1 j).isSome) (wt_ok (a := atM σ) hM.1 hbg) hpp hff wh _ ?_ n 0 (by omega)
    refine ev_br 1 [] (¬ wh = 0) 68 64 ([some (.ref 57), some (.int (wh)), some (.int (s_aws (fun j => a_wt (V.1 j) (σ 62 j)) n)), none], [], σ1) rfl ?_ (fun c61 => ?_) (fun c61 => ?_)
    · trivial
    · refine ev_br 2 [] (¬ wh = (1 : Int32)) 80 73 ([some (.ref 57), some (.int (wh)), some (.int (s_aws (fun j => a_wt (V.1 j) (σ 62 j)) n)), none], [], σ1) rfl ?_ (fun c70 => ?_) (fun c70 => ?_)
      · trivial
      · refine ev_blk 2 [] 84 ([some (.ref 57), some (.int (wh)), some (.int (s_aws (fun j => a_wt (V.1 j) (σ 62 j)) n)), none], [.int ((σ1 57 30))], σ1) rfl ?_ ?_
        · trivial
        exact ev_iret rfl rfl rfl ⟨by rw [s_dy, if_neg (by rintro (q | q); exact c6.1 q; exact c6.2 q), if_neg c61, if_neg c70, hR.2.2], hfr⟩
      · refine ev_blk 3 [] 84 ([some (.ref 57), some (.int (wh)), some (.int (s_aws (fun j => a_wt (V.1 j) (σ 62 j)) n)), none], [.int ((σ1 57 29))], σ1) rfl ?_ ?_
        · trivial
        exact ev_iret rfl rfl rfl ⟨by rw [s_dy, if_neg (by rintro (q | q); exact c6.1 q; exact c6.2 q), if_neg c61, if_pos (Classical.byContradiction c70), hR.2.1], hfr⟩
    · refine ev_blk 2 [] 84 ([some (.ref 57), some (.int (wh)), some (.int (s_aws (fun j => a_wt (V.1 j) (σ 62 j)) n)), none], [.int (s_aws (fun j => a_wt (V.1 j) (σ 62 j)) n)], σ1) rfl ?_ ?_
      · trivial
      have haw := aws_n (wt_ok (a := atM σ) hM.1 hbg) (10 - n) (by omega)
      rw [show n + (10 - n) = 10 by omega] at haw
      exact ev_iret rfl rfl rfl ⟨by rw [s_dy, if_neg (by rintro (q | q); exact c6.1 q; exact c6.2 q), if_pos (Classical.byContradiction c61)]; exact congrArg (fun z => some (Value.int z)) haw.symm, hfr⟩
  · replace c6 := zi_n.mp c6
    refine ev_blk 1 [] 11 ([some (.ref 57), some (.int (wh)), none, none], [.int ((-2 : Int32))], σ) rfl ?_ ?_
    · trivial
    exact ev_iret rfl rfl rfl ⟨by rw [s_dy, if_pos (Classical.byContradiction (fun q => c6 ⟨fun z => q (Or.inl z), fun z => q (Or.inr z)⟩))], xFm.rf⟩
set_option maxRecDepth 100000 in
theorem m_line_in (σ1 : xSg) (n : Nat) (V : aSt) (hn : σ1 57 0 = nI n) (hn10 : n ≤ 10) (ff : Nat → Int32) (pp : Nat → Bool) (hpp : ∀ x, x < n → (pp x = true ↔ ¬ σ1 80 x = -1)) (hff : ∀ x, x < n → pp x = true → σ1 80 x - σ1 62 x = ff x) (ii : Int32) (Q : Option Value → xSg → Prop) (k : Nat) (hk : k < n) (hp : pp k = true) (kK : ∀ g2 : Nat → Int32, rowL g2 0 (s_srt (lK ff) ((List.range (k + 1)).filter pp)) → xEv (.inl 5) M_X6_line Q 15 ([some (.ref 57), some (.int (ii)), some (.int (nI ((s_srt (lK ff) ((List.range k).filter pp)).length + 1))), some (.int (nI (k + 1))), none], [], (x_up σ1 81 g2))) : ∀ (i : Nat) (g : Nat → Int32), i ≤ (s_srt (lK ff) ((List.range k).filter pp)).length → insR g 0 (s_srt (lK ff) ((List.range k).filter pp)) i → (∀ y ∈ (s_srt (lK ff) ((List.range k).filter pp)).drop i, lK ff k < lK ff y) → xEv (.inl 5) M_X6_line Q 39 ([some (.ref 57), some (.int (ii)), some (.int (nI (s_srt (lK ff) ((List.range k).filter pp)).length)), some (.int (nI k)), some (.int (nI i))], [], (x_up σ1 81 g)) := by
  have hPl : (s_srt (lK ff) ((List.range k).filter pp)).length ≤ k := by rw [s_srt_len]; have := List.length_filter_le pp (List.range k); rw [List.length_range] at this; omega
  have hkc : (nI k).toNatClampNeg = k := nI_clamp (by omega)
  have hnx : s_srt (lK ff) ((List.range (k + 1)).filter pp) = s_ins (lK ff) k (s_srt (lK ff) ((List.range k).filter pp)) := by rw [List.range_succ, List.filter_append, show [k].filter pp = [k] from by simp [hp], s_srt_snoc]
  have hPm : ∀ y ∈ (s_srt (lK ff) ((List.range k).filter pp)), y < k ∧ pp y = true := fun y hy => by
    have := List.mem_filter.mp (s_srt_mem.mp hy)
    exact ⟨List.mem_range.mp this.1, this.2⟩
  have fin : ∀ (i : Nat) (g : Nat → Int32), i ≤ (s_srt (lK ff) ((List.range k).filter pp)).length → insR g 0 (s_srt (lK ff) ((List.range k).filter pp)) i → (∀ y ∈ (s_srt (lK ff) ((List.range k).filter pp)).drop i, lK ff k < lK ff y) → (∀ y ∈ (s_srt (lK ff) ((List.range k).filter pp)).take i, lK ff y ≤ lK ff k) → xEv (.inl 5) M_X6_line Q 111 ([some (.ref 57), some (.int (ii)), some (.int (nI (s_srt (lK ff) ((List.range k).filter pp)).length)), some (.int (nI k)), some (.int (nI i))], [], (x_up σ1 81 g)) := by
    intro i g hi hR hd ht2
    have hic : (nI i).toNatClampNeg = i := nI_clamp (by omega)
    refine ev_blk 8 [vp_in (nI i) 10] 15 ([some (.ref 57), some (.int (ii)), some (.int ((nI (s_srt (lK ff) ((List.range k).filter pp)).length) + (1 : Int32))), some (.int ((nI k) + (1 : Int32))), some (.int (nI i))], [], (x_up (x_up σ1 81 g) 81 (upd g (nI i).toNatClampNeg (nI k)))) rfl ?_ ?_
    · exact vp_in_nI (by omega) (by decide)
    rw [hic]
    rw [nI_1, nI_1, x_up_up]
    refine ev_drop 4 ?_
    refine kK _ ?_
    rw [hnx, s_ins_split hd ht2]
    have h := insR_end (x := k) hR hi
    rw [Nat.zero_add] at h
    exact h
  intro i
  induction i with
  | zero =>
    intro g hi hR hd
    refine ev_br 1 [] ((nI 0) ≤ 0) 111 44 ([some (.ref 57), some (.int (ii)), some (.int (nI (s_srt (lK ff) ((List.range k).filter pp)).length)), some (.int (nI k)), some (.int (nI 0))], [], (x_up σ1 81 g)) rfl ?_ (fun c41 => ?_) (fun c41 => ?_)
    · trivial
    · exact fin 0 g hi hR hd (by simp)
    · exact absurd (by decide) c41
  | succ a ih =>
    intro g hi hR hd
    have hac : (nI (a + 1)).toNatClampNeg = a + 1 := nI_clamp (by omega)
    have hsub := i_m1 (a := a) (by omega)
    have hsc : ((nI (a + 1)) - (1 : Int32)).toNatClampNeg = a := by rw [hsub, nI_clamp (by omega)]
    obtain ⟨y, hy⟩ : ∃ y, (s_srt (lK ff) ((List.range k).filter pp))[a]? = some y := ⟨_, List.getElem?_eq_getElem (by omega)⟩
    obtain ⟨hyk, hpy⟩ := hPm y (List.mem_of_getElem? hy)
    have hgy : g a = nI y := by have := hR.1 a y hy (by omega); rwa [Nat.zero_add] at this
    have hgs : g ((nI (a + 1)) - (1 : Int32)).toNatClampNeg = nI y := by rw [hsc]; exact hgy
    have hyc : (g ((nI (a + 1)) - (1 : Int32)).toNatClampNeg).toNatClampNeg = y := by rw [hgs, nI_clamp (by omega)]
    have e1 : (σ1 80) y - (σ1 62) y = ff y := hff y (by omega) hpy
    have e2 : (σ1 80) k - (σ1 62) k = ff k := hff k hk hp
    refine ev_br 1 [] ((nI (a + 1)) ≤ 0) 111 44 ([some (.ref 57), some (.int (ii)), some (.int (nI (s_srt (lK ff) ((List.range k).filter pp)).length)), some (.int (nI k)), some (.int (nI (a + 1)))], [], (x_up σ1 81 g)) rfl ?_ (fun c41 => ?_) (fun c41 => ?_)
    · trivial
    · exact absurd c41 (nI_nle (by omega) (by omega))
    · refine ev_br 28 [vp_in ((nI (a + 1)) - (1 : Int32)) 10, vp_in (g ((nI (a + 1)) - (1 : Int32)).toNatClampNeg) 10, vp_in ((nI (a + 1)) - (1 : Int32)) 10, vp_in (g ((nI (a + 1)) - (1 : Int32)).toNatClampNeg) 10, vp_in (nI k) 10, vp_in (nI k) 10] ((((σ1 80) (nI k).toNatClampNeg) - ((σ1 62) (nI k).toNatClampNeg)) ≤ (((σ1 80) (g ((nI (a + 1)) - (1 : Int32)).toNatClampNeg).toNatClampNeg) - ((σ1 62) (g ((nI (a + 1)) - (1 : Int32)).toNatClampNeg).toNatClampNeg))) 111 89 ([some (.ref 57), some (.int (ii)), some (.int (nI (s_srt (lK ff) ((List.range k).filter pp)).length)), some (.int (nI k)), some (.int (nI (a + 1)))], [], (x_up σ1 81 g)) rfl ?_ (fun c86 => ?_) (fun c86 => ?_)
      · exact ⟨(by rw [hsub]; exact vp_in_nI (by omega) (by decide)), (by rw [hgs]; exact vp_in_nI (by omega) (by decide)), (by rw [hsub]; exact vp_in_nI (by omega) (by decide)), (by rw [hgs]; exact vp_in_nI (by omega) (by decide)), (vp_in_nI (by omega) (by decide)), (vp_in_nI (by omega) (by decide))⟩
      · rw [hyc] at c86
        rw [hkc] at c86
        refine fin (a + 1) g hi hR hd (fun z hz => ?_)
        have h1 := Sd_take s_srt_sd hy z hz
        rw [e1, e2] at c86
        have h2 := Int32.le_iff_toInt_le.mp c86
        refine Int.le_trans h1 ?_
        show -(ff y).toInt ≤ -(ff k).toInt
        omega
      · rw [hyc] at c86
        rw [hkc] at c86
        refine ev_blk 12 [vp_in ((nI (a + 1)) - (1 : Int32)) 10, vp_in (nI (a + 1)) 10] 39 ([some (.ref 57), some (.int (ii)), some (.int (nI (s_srt (lK ff) ((List.range k).filter pp)).length)), some (.int (nI k)), some (.int ((nI (a + 1)) + (-1 : Int32)))], [], (x_up (x_up σ1 81 g) 81 (upd g (nI (a + 1)).toNatClampNeg (g ((nI (a + 1)) - (1 : Int32)).toNatClampNeg)))) rfl ?_ ?_
        · exact ⟨(by rw [hsub]; exact vp_in_nI (by omega) (by decide)), (vp_in_nI (by omega) (by decide))⟩
        rw [hsc]
        rw [hac]
        rw [i_p1m (by omega), x_up_up]
        refine ih _ (by omega) ?_ (drop_gt hd hy ?_)
        · have := insR_stp hR
          simpa using this
        · rw [e1, e2] at c86
          have h2 := Int32.lt_iff_toInt_lt.mp (Int32.not_le.mp c86)
          show -(ff k).toInt < -(ff y).toInt
          omega
set_option maxRecDepth 100000 in
theorem m_line_lp (σ1 : xSg) (n : Nat) (V : aSt) (hn : σ1 57 0 = nI n) (hn10 : n ≤ 10) (ff : Nat → Int32) (pp : Nat → Bool) (hpp : ∀ x, x < n → (pp x = true ↔ ¬ σ1 80 x = -1)) (hff : ∀ x, x < n → pp x = true → σ1 80 x - σ1 62 x = ff x) (ii : Int32) (Q : Option Value → xSg → Prop) (kE : ∀ g : Nat → Int32, rowL g 0 (s_srt (lK ff) ((List.range n).filter pp)) → xEv (.inl 5) M_X6_line Q 128 ([some (.ref 57), some (.int (ii)), some (.int (nI (s_srt (lK ff) ((List.range n).filter pp)).length)), none, none], [], (x_up σ1 81 g))) : ∀ (m k : Nat) (g : Nat → Int32), k + m = n → rowL g 0 (s_srt (lK ff) ((List.range k).filter pp)) → xEv (.inl 5) M_X6_line Q 15 ([some (.ref 57), some (.int (ii)), some (.int (nI (s_srt (lK ff) ((List.range k).filter pp)).length)), some (.int (nI k)), none], [], (x_up σ1 81 g)) := by
  intro m
  induction m with
  | zero =>
    intro k g hk hg
    refine ev_br 3 [] ((σ1 57 0) ≤ (nI k)) 128 23 ([some (.ref 57), some (.int (ii)), some (.int (nI (s_srt (lK ff) ((List.range k).filter pp)).length)), some (.int (nI k)), none], [], (x_up σ1 81 g)) rfl ?_ (fun c20 => ?_) (fun c20 => ?_)
    · trivial
    · have e : k = n := by omega
      subst e
      refine ev_drop 3 ?_
      exact kE g hg
    · exact absurd (show σ1 57 0 ≤ nI k by rw [hn]; exact nI_le (by omega) (by omega)) c20
  | succ m ih =>
    intro k g hk hg
    have hkc : (nI k).toNatClampNeg = k := nI_clamp (by omega)
    refine ev_br 3 [] ((σ1 57 0) ≤ (nI k)) 128 23 ([some (.ref 57), some (.int (ii)), some (.int (nI (s_srt (lK ff) ((List.range k).filter pp)).length)), some (.int (nI k)), none], [], (x_up σ1 81 g)) rfl ?_ (fun c20 => ?_) (fun c20 => ?_)
    · trivial
    · exact absurd c20 (show ¬ σ1 57 0 ≤ nI k by rw [hn]; exact nI_ge (by omega) (by omega))
    · refine ev_br 5 [vp_in (nI k) 10] (¬ ((σ1 80) (nI k).toNatClampNeg) = (-1 : Int32)) 36 33 ([some (.ref 57), some (.int (ii)), some (.int (nI (s_srt (lK ff) ((List.range k).filter pp)).length)), some (.int (nI k)), none], [], (x_up σ1 81 g)) rfl ?_ (fun c30 => ?_) (fun c30 => ?_)
      · exact vp_in_nI (by omega) (by decide)
      · rw [hkc] at c30
        refine ev_blk 2 [] 39 ([some (.ref 57), some (.int (ii)), some (.int (nI (s_srt (lK ff) ((List.range k).filter pp)).length)), some (.int (nI k)), some (.int (nI (s_srt (lK ff) ((List.range k).filter pp)).length))], [], (x_up σ1 81 g)) rfl ?_ ?_
        · trivial
        have hp : pp k = true := (hpp k (by omega)).mpr c30
        have e : s_srt (lK ff) ((List.range (k + 1)).filter pp) = s_ins (lK ff) k (s_srt (lK ff) ((List.range k).filter pp)) := by rw [List.range_succ, List.filter_append, show [k].filter pp = [k] from by simp [hp], s_srt_snoc]
        refine m_line_in σ1 n V hn hn10 ff pp hpp hff ii Q k (by omega) hp (fun g2 h2 => ?_) _ g (Nat.le_refl _) (insR_ini hg) (fun y hy => by rw [List.drop_of_length_le (Nat.le_refl _)] at hy; simp at hy)
        have e3 := ih (k + 1) g2 (by omega) h2
        rw [e, s_ins_len] at e3
        exact e3
      · rw [hkc] at c30
        refine ev_blk 3 [] 15 ([some (.ref 57), some (.int (ii)), some (.int (nI (s_srt (lK ff) ((List.range k).filter pp)).length)), some (.int ((nI k) + (1 : Int32))), none], [], (x_up σ1 81 g)) rfl ?_ ?_
        · trivial
        rw [nI_1]
        have hp : pp k = false := by
          cases hz : pp k with
          | false => rfl
          | true => exact absurd (Classical.byContradiction c30) ((hpp k (by omega)).mp hz)
        have e : s_srt (lK ff) ((List.range (k + 1)).filter pp) = (s_srt (lK ff) ((List.range k).filter pp)) := by rw [List.range_succ, List.filter_append, show [k].filter pp = [] from by simp [hp], List.append_nil]
        have e2 := ih (k + 1) g (by omega) (by rw [e]; exact hg)
        rw [e] at e2
        exact e2
set_option maxRecDepth 100000 in
theorem m_line (σ : xSg) (n : Nat) (A B : List Nat) (hM : mOk σ n A B) (hL : LR σ A B) (hn : σ 57 0 = nI n) (ii : Int32) : xCtr M_X6_line [.ref 57, .int (ii)] σ (fun r σ2 => r = some (.int (s_lin (σ 62) (s_ar (atM σ) (tkM σ) A B 21 0 (fun _ => none, 0, none)) ii)) ∧ xFm scM scP σ σ2) := by
  refine ctr_ev ok_X6_line (by decide +kernel) rfl rfl rfl ?_
  show xEv (.inl 5) M_X6_line _ 0 ([some (.ref 57), some (.int (ii)), none, none, none], [], σ)
  refine ev_br 1 [] (0 ≤ ii) 7 4 ([some (.ref 57), some (.int (ii)), none, none, none], [], σ) rfl ?_ (fun c1 => ?_) (fun c1 => ?_)
  · trivial
  · refine ev_blk 1 [] 8 ([some (.ref 57), some (.int (ii)), none, none, none], [.ref 57], σ) rfl ?_ ?_
    · trivial
    refine ev_callV M_X6_goesOn [] [] 57 rfl rfl ln_X6_193 k_X6_goesOn rfl rfl rfl rfl rfl rfl (m_goesOn σ n A B hM hL hn) ?_
    rintro r σ1 ⟨rfl, hR, hfr⟩
    have h62 : σ1 62 = σ 62 := hfr.1 62 (by decide) (by decide)
    have hn1 : σ1 57 0 = nI n := (hfr.2 0 (by decide)).trans hn
    have hbg := ar_bg (tk := tkM σ) (show laOk (atM σ) n A B from ⟨hM.1, hM.2.2⟩)
    generalize hVV : (s_ar (atM σ) (tkM σ) A B 21 0 (fun _ => none, 0, none)) = V at *
    show xEv _ _ _ 11 ([some (.ref 57), some (.int (ii)), none, none, none], [], σ1)
    refine ev_blk 4 [] 15 ([some (.ref 57), some (.int (ii)), some (.int ((0 : Int32))), some (.int ((0 : Int32))), none], [], σ1) rfl ?_ ?_
    · trivial
    have hn10 := hM.1.1
    have hpp : ∀ x, x < n → ((fun j => (V.1 j).isSome) x = true ↔ ¬ σ1 80 x = -1) := fun x hx => by
      rw [hR.1 x (by omega)]
      show (V.1 x).isSome = true ↔ _
      cases hb : V.1 x with
      | none => simp [s_oi]
      | some t =>
        simp only [Option.isSome_some, true_iff]
        exact nI_oi (by have := (hbg x t hb).2.1; omega)
    have hff : ∀ x, x < n → (fun j => (V.1 j).isSome) x = true → σ1 80 x - σ1 62 x = (fun j => a_wt (V.1 j) (σ 62 j)) x := fun x hx hp => by
      rw [hR.1 x (by omega), h62]
      show _ = a_wt (V.1 x) (σ 62 x)
      cases hb : V.1 x with
      | none => exact absurd (show (V.1 x).isSome = true from hp) (by rw [hb]; decide)
      | some t => rfl
    obtain ⟨i, hi31, rfl⟩ := nI_of (Int32.not_lt.mpr c1)
    have hw : wOk (fun j => a_wt (V.1 j) (σ 62 j)) n (fun j => (V.1 j).isSome) := wt_ok (a := atM σ) hM.1 hbg
    have hll : (s_srt (lK (fun j => a_wt (V.1 j) (σ 62 j))) ((List.range n).filter (fun j => (V.1 j).isSome))).length ≤ 10 := by rw [s_srt_len]; have := List.length_filter_le (fun j => (V.1 j).isSome) (List.range n); rw [List.length_range] at this; omega
    have hx81 := fun kE => m_line_lp σ1 n V hn1 hn10 (fun j => a_wt (V.1 j) (σ 62 j)) (fun j => (V.1 j).isSome) hpp hff (nI i) (fun r σ2 => r = some (.int (s_lin (σ 62) V (nI i))) ∧ xFm scM scP σ σ2) kE n 0 (σ1 81) (by omega) (fun j x hj => by simp [s_srt] at hj)
    rw [x_up_self] at hx81
    refine hx81 (fun g hg => ?_)
    have hfin : xFm scM scP σ (x_up σ1 81 g) := hfr.tr ⟨fun c hc hn => x_up_ne (fun z => hc (by rw [z]; decide)), fun k _ => by rw [x_up_ne (by decide)]⟩
    show xEv _ _ _ 128 ([some (.ref 57), some (.int (nI i)), some (.int (nI (s_srt (lK (fun j => a_wt (V.1 j) (σ 62 j))) ((List.range n).filter (fun j => (V.1 j).isSome))).length)), none, none], [], (x_up σ1 81 g))
    refine ev_br 2 [] ((nI (s_srt (lK (fun j => a_wt (V.1 j) (σ 62 j))) ((List.range n).filter (fun j => (V.1 j).isSome))).length) ≤ (nI i)) 142 133 ([some (.ref 57), some (.int (nI i)), some (.int (nI (s_srt (lK (fun j => a_wt (V.1 j) (σ 62 j))) ((List.range n).filter (fun j => (V.1 j).isSome))).length)), none, none], [], (x_up σ1 81 g)) rfl ?_ (fun c130 => ?_) (fun c130 => ?_)
    · trivial
    · refine ev_blk 1 [] 143 ([some (.ref 57), some (.int (nI i)), some (.int (nI (s_srt (lK (fun j => a_wt (V.1 j) (σ 62 j))) ((List.range n).filter (fun j => (V.1 j).isSome))).length)), none, none], [.int ((-1 : Int32))], (x_up σ1 81 g)) rfl ?_ ?_
      · trivial
      have hle := (nI_leI (by omega) (by omega)).mp c130
      refine ev_iret rfl rfl rfl ⟨?_, hfin⟩
      rw [s_lin, if_neg (Int32.not_lt.mpr c1), w_line hw hi31, List.getElem?_eq_none hle]
    · refine ev_blk 5 [vp_in (nI i) 10] 143 ([some (.ref 57), some (.int (nI i)), some (.int (nI (s_srt (lK (fun j => a_wt (V.1 j) (σ 62 j))) ((List.range n).filter (fun j => (V.1 j).isSome))).length)), none, none], [.int (g (nI i).toNatClampNeg)], (x_up σ1 81 g)) rfl ?_ ?_
      · exact vp_in_nI (by have := (nI_ltI (by omega) (by omega)).mp (Int32.not_le.mp c130); omega) (by decide)
      have hlt : i < (s_srt (lK (fun j => a_wt (V.1 j) (σ 62 j))) ((List.range n).filter (fun j => (V.1 j).isSome))).length := Nat.lt_of_not_le (fun q => c130 (nI_le q (by omega)))
      obtain ⟨x, hx⟩ : ∃ x, (s_srt (lK (fun j => a_wt (V.1 j) (σ 62 j))) ((List.range n).filter (fun j => (V.1 j).isSome)))[i]? = some x := ⟨_, List.getElem?_eq_getElem hlt⟩
      refine ev_iret rfl rfl rfl ⟨?_, hfin⟩
      rw [s_lin, if_neg (Int32.not_lt.mpr c1), w_line hw hi31, hx]
      have := hg i x hx
      rw [Nat.zero_add] at this
      rw [nI_clamp hi31, this]
  · refine ev_blk 1 [] 6 ([some (.ref 57), some (.int (ii)), none, none, none], [.int ((-2 : Int32))], σ) rfl ?_ ?_
    · trivial
    exact ev_iret rfl rfl rfl ⟨by rw [s_lin, if_pos (Int32.not_le.mp c1)], xFm.rf⟩
