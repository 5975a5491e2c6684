/-- who waits, as the reference keeps its lanes -/
def LR (σ : xSg) (A B : List Nat) : Prop := A.length ≤ 10 ∧ B.length ≤ 10 ∧ (∀ (i x : Nat), A[i]? = some x → σ 66 i = nI x) ∧ (∀ (i x : Nat), B[i]? = some x → σ 66 (10 + i) = nI x) ∧ σ 67 0 = nI A.length ∧ σ 67 1 = nI B.length
def scM : List Nat := [74, 75, 76, 77, 78, 79, 80, 81, 82, 83, 84, 85]
def scP : List Nat := [23, 27, 29, 30]
theorem SR_all {σ σ1 : xSg} {A B : List Nat} (h : LR σ A B) (h74 : ∀ j, j < 20 → σ1 74 j = σ 66 j) (h75 : σ1 75 = upd (upd (σ 75) 0 (σ 67 0)) 1 (σ 67 1)) : SR σ1 A B := by
  obtain ⟨h1, h2, h3, h4, h5, h6⟩ := h
  refine ⟨h1, h2, fun i x hi => ?_, fun i x hi => ?_, by rw [h75, upd_ne (by decide), upd_eq, h5], by rw [h75, upd_eq, h6]⟩
  · have := (List.getElem?_eq_some_iff.mp hi).1
    rw [h74 i (by omega)]
    exact h3 i x hi
  · have := (List.getElem?_eq_some_iff.mp hi).1
    rw [h74 (10 + i) (by omega)]
    exact h4 i x hi
/-- what the reference needs to think of fillings -/
def mOk (σ : xSg) (n : Nat) (A B : List Nat) : Prop := aOk (atM σ) n ∧ (∀ i, i < 60 → σ 69 i = 0 ∨ σ 69 i = 1) ∧ (∀ x ∈ A, x < n) ∧ (∀ x ∈ B, x < n) ∧ A.length + B.length ≤ 10 ∧ A.Nodup ∧ B.Nodup ∧ ∀ x, x ∈ A → x ∈ B → False
theorem mOk_fr {S P : List Nat} {σ σ1 : xSg} {n : Nat} {A B : List Nat} (h : mOk σ n A B) (hf : xFm S P σ σ1) (hS : (S.all fun c => !([58, 59, 60, 61, 62, 63, 68, 69] : List Nat).contains c) = true) : mOk σ1 n A B := by
  have e : atM σ1 = atM σ := atM_fr hf (by
    rw [List.all_eq_true] at hS ⊢
    intro c hc
    have := hS c hc
    simp at this ⊢
    omega)
  have e2 : σ1 69 = σ 69 := hf.1 69 (fun q => by have := List.all_eq_true.mp hS 69 q; cases this) (by decide)
  unfold mOk
  rw [e, e2]
  exact h
theorem mOk_nx {σ : xSg} {n : Nat} {A B : List Nat} {a : sAt} {tk : sTk} (h : mOk σ n A B) : mOk σ n (s_fill a tk A B).1 (s_fill a tk A B).2.1 := by
  obtain ⟨h1, h2, h3, h4, h5, h6, h7, h8⟩ := h
  obtain ⟨e1, e2, -, -⟩ := s_fill_w (a := a) (tk := tk) h6 h7 h8
  rw [e1, e2]
  refine ⟨h1, h2, fun x hx => h3 x (List.mem_filter.mp hx).1, fun x hx => h4 x (List.mem_filter.mp hx).1, ?_, h6.filter _, h7.filter _, fun x hx hy => h8 x (List.mem_filter.mp hx).1 (List.mem_filter.mp hy).1⟩
  have := List.length_filter_le (fun x => !decide (x ∈ (s_went (s_fill a tk A B)).map Prod.fst)) A
  have := List.length_filter_le (fun x => !decide (x ∈ (s_went (s_fill a tk A B)).map Prod.fst)) B
  omega
theorem mOk_went {σ : xSg} {n : Nat} {A B : List Nat} {a : sAt} {tk : sTk} (h : mOk σ n A B) : ∀ q ∈ s_went (s_fill a tk A B), q.1 < 10 := by
  obtain ⟨h1, h2, h3, h4, h5, h6, h7, h8⟩ := h
  obtain ⟨-, -, e3, -⟩ := s_fill_w (a := a) (tk := tk) h6 h7 h8
  intro q hq
  have hn := h1.1
  rcases e3 q.1 (List.mem_map_of_mem hq) with h | h
  · have := h3 _ h; omega
  · have := h4 _ h; omega
theorem fl_drop {l : List Nat} {W : List Nat} (h : ∀ x, x ∈ l → x ∈ W → False) : l.filter (fun x => !decide (x ∈ W)) = l := List.filter_eq_self.mpr (fun x hx => by simp; exact fun q => h x hx q)
theorem fl_less {l W : List Nat} {x : Nat} (hx : x ∈ l) (hw : x ∈ W) : (l.filter (fun y => !decide (y ∈ W))).length < l.length := by
  have h1 := List.length_filter_le (fun y => !decide (y ∈ W)) l
  rcases Nat.lt_or_ge (l.filter (fun y => !decide (y ∈ W))).length l.length with h | h
  · exact h
  · have := (List.filter_eq_self.mp (List.filter_sublist.eq_of_length_le h)) x hx
    simp [hw] at this
/-- somebody went in: fewer wait -/
theorem mOk_less {σ : xSg} {n : Nat} {A B : List Nat} {a : sAt} {tk : sTk} (h : mOk σ n A B) (hw : s_went (s_fill a tk A B) ≠ []) : (s_fill a tk A B).1.length + (s_fill a tk A B).2.1.length < A.length + B.length := by
  obtain ⟨h1, h2, h3, h4, h5, h6, h7, h8⟩ := h
  obtain ⟨e1, e2, e3, -⟩ := s_fill_w (a := a) (tk := tk) h6 h7 h8
  rw [e1, e2]
  obtain ⟨q, hq⟩ := List.exists_mem_of_ne_nil _ hw
  have hm := List.mem_map_of_mem (f := Prod.fst) hq
  have la := List.length_filter_le (fun x => !decide (x ∈ (s_went (s_fill a tk A B)).map Prod.fst)) A
  have lb := List.length_filter_le (fun x => !decide (x ∈ (s_went (s_fill a tk A B)).map Prod.fst)) B
  rcases e3 q.1 hm with h | h
  · have := fl_less h hm; omega
  · have := fl_less h hm; omega
theorem tkM_fr {σ σ1 : xSg} (h : σ1 69 = σ 69) : tkM σ1 = tkM σ := by unfold tkM; rw [h]
theorem mOk_none {σ : xSg} {n : Nat} {A B : List Nat} {a : sAt} {tk : sTk} (h : mOk σ n A B) (hw : s_went (s_fill a tk A B) = []) : (s_fill a tk A B).1 = A ∧ (s_fill a tk A B).2.1 = B := by
  obtain ⟨h1, h2, h3, h4, h5, h6, h7, h8⟩ := h
  obtain ⟨e1, e2, -, -⟩ := s_fill_w (a := a) (tk := tk) h6 h7 h8
  rw [hw] at e1 e2
  exact ⟨e1.trans (List.filter_eq_self.mpr (fun _ _ => by simp)), e2.trans (List.filter_eq_self.mpr (fun _ _ => by simp))⟩
set_option maxRecDepth 100000 in
theorem m_nextP (σ : xSg) (n : Nat) (A B : List Nat) (hM : mOk σ n A B) (hL : LR σ A B) (k wh : Int32) : xCtr M_X6_next [.ref 57, .int k, .int wh] σ (fun r σ1 => r = some (.int (s_nxt (s_went (s_fill (atM σ) (tkM σ) A B)) k wh)) ∧ xFm scM scP σ σ1) := by
  refine ctr_ev ok_X6_next (by decide +kernel) rfl rfl rfl ?_
  show xEv (.inl 4) M_X6_next _ 0 ([some (.ref 57), some (.int (k)), some (.int (wh))], [], σ)
  refine ev_br 1 [] (k < 0) 13 4 ([some (.ref 57), some (.int (k)), some (.int (wh))], [], σ) rfl ?_ (fun c1 => ?_) (fun c1 => ?_)
  · trivial
  · refine ev_blk 1 [] 15 ([some (.ref 57), some (.int (k)), some (.int (wh))], [.int ((-2 : Int32))], σ) rfl ?_ ?_
    · trivial
    exact ev_iret rfl rfl rfl ⟨by rw [s_nxt, if_pos (by first | exact Or.inl c1 | exact Classical.byContradiction (fun q => c10 ⟨fun z => q (Or.inr (Or.inl z)), fun z => q (Or.inr (Or.inr z))⟩))], xFm.rf⟩
  · refine ev_blk 3 [] 7 ([some (.ref 57), some (.int (k)), some (.int (wh))], [.int ((2 : Int32)), .int ((0 : Int32)), .int (wh)], σ) rfl ?_ ?_
    · trivial
    refine ev_callS M_X6_within [.int (wh), .int ((0 : Int32)), .int ((2 : Int32))] [] rfl rfl ln_X6_110 k_X6_within rfl rfl rfl (m_within _ _ _ _) ?_
    refine pu_k ?_
    show xEv _ _ _ 10 ([some (.ref 57), some (.int (k)), some (.int (wh))], [.int (zi (¬ wh < (0 : Int32) ∧ ¬ (2 : Int32) < wh))], σ)
    refine ev_br 0 [] (¬ (zi (¬ wh < (0 : Int32) ∧ ¬ (2 : Int32) < wh)) = 0) 16 13 ([some (.ref 57), some (.int (k)), some (.int (wh))], [], σ) rfl ?_ (fun c10 => ?_) (fun c10 => ?_)
    · trivial
    · replace c10 := zi_1.mp c10
      refine ev_blk 1 [] 17 ([some (.ref 57), some (.int (k)), some (.int (wh))], [.ref 57], σ) rfl ?_ ?_
      · trivial
      refine ev_callV M_X6_all [] [] 57 rfl rfl ln_X6_169 k_X6_all rfl rfl rfl rfl rfl rfl (m_all σ) ?_
      rintro r σ1 ⟨rfl, h74, h75, hf1⟩
      have hR1 := SR_all hL h74 h75
      have hM1 := mOk_fr hM hf1 rfl
      have ha1 := atM_fr hf1 rfl
      have ht1 : tkM σ1 = tkM σ := tkM_fr (hf1.1 69 (by decide) (by decide))
      show xEv _ _ _ 20 ([some (.ref 57), some (.int (k)), some (.int (wh))], [], σ1)
      refine ev_blk 2 [] 22 ([some (.ref 57), some (.int (k)), some (.int (wh))], [.ref 57, .int (k)], σ1) rfl ?_ ?_
      · trivial
      refine ev_callV M_X6_fills [] [.int (k)] 57 rfl rfl ln_X6_172 k_X6_fills rfl rfl rfl rfl rfl rfl (m_fills σ1 n A B hM1.1 hM1.2.1 hR1 hM1.2.2.1 hM1.2.2.2.1 hM1.2.2.2.2.1) ?_
      rintro r σ2 ⟨rfl, hF, hR2, hf2⟩
      rw [ha1, ht1] at hF hR2 ⊢
      have hfr : xFm scM scP σ σ2 := (hf1.mono rfl rfl).tr (hf2.mono rfl rfl)
      have ha2 : atM σ2 = atM σ := (atM_fr hf2 rfl).trans ha1
      show xEv _ _ _ 25 ([some (.ref 57), some (.int (k)), some (.int (wh))], [.int (nI (s_went (s_fill (atM σ) (tkM σ) A B)).length), .int (k)], σ2)
      refine ev_br 0 [] (k < (nI (s_went (s_fill (atM σ) (tkM σ) A B)).length)) 30 28 ([some (.ref 57), some (.int (k)), some (.int (wh))], [], σ2) rfl ?_ (fun c25 => ?_) (fun c25 => ?_)
      · trivial
      · refine ev_br 1 [] (¬ wh = 0) 43 34 ([some (.ref 57), some (.int (k)), some (.int (wh))], [], σ2) rfl ?_ (fun c31 => ?_) (fun c31 => ?_)
        · trivial
        · refine ev_br 2 [] (¬ wh = (1 : Int32)) 57 48 ([some (.ref 57), some (.int (k)), some (.int (wh))], [], σ2) rfl ?_ (fun c45 => ?_) (fun c45 => ?_)
          · trivial
          · refine ev_blk 4 [vp_in (k) 10] 63 ([some (.ref 57), some (.int (k)), some (.int (wh))], [.int ((σ2 79) k.toNatClampNeg)], σ2) rfl ?_ ?_
            · obtain ⟨kk, hkk, rfl⟩ := nI_of c1
              have hkc : (nI kk).toNatClampNeg = kk := nI_clamp hkk
              have hl10 : (s_went (s_fill (atM σ) (tkM σ) A B)).length ≤ 10 := hF.1
              have hlt := (nI_ltI hkk (by omega)).mp c25
              exact vp_in_nI (by omega) (by decide)
            have hg : ¬ (k < 0 ∨ wh < 0 ∨ 2 < wh) := by rintro (q | q | q); exact c1 q; exact c10.1 q; exact c10.2 q
            obtain ⟨kk, hkk, rfl⟩ := nI_of c1
            have hkc : (nI kk).toNatClampNeg = kk := nI_clamp hkk
            have hl10 : (s_went (s_fill (atM σ) (tkM σ) A B)).length ≤ 10 := hF.1
            have hlt := (nI_ltI hkk (by omega)).mp c25
            obtain ⟨q, hq⟩ : ∃ q, (s_went (s_fill (atM σ) (tkM σ) A B))[kk]? = some q := ⟨_, List.getElem?_eq_getElem hlt⟩
            obtain ⟨q1, q2, q3⟩ := hF.2.2.2 kk q.1 q.2.1 q.2.2 hq
            refine ev_iret rfl rfl rfl ⟨?_, hfr⟩
            rw [s_nxt, if_neg hg, hkc, hq, q3]
            simp [c31, c45]
          · refine ev_blk 5 [vp_in (k) 10] 63 ([some (.ref 57), some (.int (k)), some (.int (wh))], [.int ((σ2 78) k.toNatClampNeg)], σ2) rfl ?_ ?_
            · obtain ⟨kk, hkk, rfl⟩ := nI_of c1
              have hkc : (nI kk).toNatClampNeg = kk := nI_clamp hkk
              have hl10 : (s_went (s_fill (atM σ) (tkM σ) A B)).length ≤ 10 := hF.1
              have hlt := (nI_ltI hkk (by omega)).mp c25
              exact vp_in_nI (by omega) (by decide)
            have hg : ¬ (k < 0 ∨ wh < 0 ∨ 2 < wh) := by rintro (q | q | q); exact c1 q; exact c10.1 q; exact c10.2 q
            obtain ⟨kk, hkk, rfl⟩ := nI_of c1
            have hkc : (nI kk).toNatClampNeg = kk := nI_clamp hkk
            have hl10 : (s_went (s_fill (atM σ) (tkM σ) A B)).length ≤ 10 := hF.1
            have hlt := (nI_ltI hkk (by omega)).mp c25
            obtain ⟨q, hq⟩ : ∃ q, (s_went (s_fill (atM σ) (tkM σ) A B))[kk]? = some q := ⟨_, List.getElem?_eq_getElem hlt⟩
            obtain ⟨q1, q2, q3⟩ := hF.2.2.2 kk q.1 q.2.1 q.2.2 hq
            refine ev_iret rfl rfl rfl ⟨?_, hfr⟩
            rw [s_nxt, if_neg hg, hkc, hq, q2]
            simp [c31, Classical.byContradiction c45]
        · refine ev_blk 5 [vp_in (k) 10] 63 ([some (.ref 57), some (.int (k)), some (.int (wh))], [.int ((σ2 77) k.toNatClampNeg)], σ2) rfl ?_ ?_
          · obtain ⟨kk, hkk, rfl⟩ := nI_of c1
            have hkc : (nI kk).toNatClampNeg = kk := nI_clamp hkk
            have hl10 : (s_went (s_fill (atM σ) (tkM σ) A B)).length ≤ 10 := hF.1
            have hlt := (nI_ltI hkk (by omega)).mp c25
            exact vp_in_nI (by omega) (by decide)
          have hg : ¬ (k < 0 ∨ wh < 0 ∨ 2 < wh) := by rintro (q | q | q); exact c1 q; exact c10.1 q; exact c10.2 q
          obtain ⟨kk, hkk, rfl⟩ := nI_of c1
          have hkc : (nI kk).toNatClampNeg = kk := nI_clamp hkk
          have hl10 : (s_went (s_fill (atM σ) (tkM σ) A B)).length ≤ 10 := hF.1
          have hlt := (nI_ltI hkk (by omega)).mp c25
          obtain ⟨q, hq⟩ : ∃ q, (s_went (s_fill (atM σ) (tkM σ) A B))[kk]? = some q := ⟨_, List.getElem?_eq_getElem hlt⟩
          obtain ⟨q1, q2, q3⟩ := hF.2.2.2 kk q.1 q.2.1 q.2.2 hq
          refine ev_iret rfl rfl rfl ⟨?_, hfr⟩
          rw [s_nxt, if_neg hg, hkc, hq, q1]
          simp [Classical.byContradiction c31]
      · refine ev_blk 1 [] 29 ([some (.ref 57), some (.int (k)), some (.int (wh))], [.int ((-1 : Int32))], σ2) rfl ?_ ?_
        · trivial
        have hg : ¬ (k < 0 ∨ wh < 0 ∨ 2 < wh) := by rintro (q | q | q); exact c1 q; exact c10.1 q; exact c10.2 q
        obtain ⟨kk, hkk, rfl⟩ := nI_of c1
        have hkc : (nI kk).toNatClampNeg = kk := nI_clamp hkk
        have hl10 : (s_went (s_fill (atM σ) (tkM σ) A B)).length ≤ 10 := hF.1
        have hle : (s_went (s_fill (atM σ) (tkM σ) A B)).length ≤ kk := Nat.le_of_not_lt (fun q => c25 (nI_lt q (by omega)))
        exact ev_iret rfl rfl rfl ⟨by rw [s_nxt, if_neg hg, hkc, List.getElem?_eq_none hle], hfr⟩
    · replace c10 := zi_n.mp c10
      refine ev_blk 1 [] 15 ([some (.ref 57), some (.int (k)), some (.int (wh))], [.int ((-2 : Int32))], σ) rfl ?_ ?_
      · trivial
      exact ev_iret rfl rfl rfl ⟨by rw [s_nxt, if_pos (by first | exact Or.inl c1 | exact Classical.byContradiction (fun q => c10 ⟨fun z => q (Or.inr (Or.inl z)), fun z => q (Or.inr (Or.inr z))⟩))], xFm.rf⟩
set_option maxRecDepth 100000 in
theorem m_waterP (σ : xSg) (n : Nat) (A B : List Nat) (hM : mOk σ n A B) (hL : LR σ A B) : xCtr M_X6_water [.ref 57] σ (fun r σ1 => r = some (.long (s_wat (atM σ) (s_went (s_fill (atM σ) (tkM σ) A B)))) ∧ xFm scM scP σ σ1) := by
  refine ctr_ev ok_X6_water (by decide +kernel) rfl rfl rfl ?_
  show xEv (.inl 4) M_X6_water _ 0 ([some (.ref 57)], [], σ)
  refine ev_blk 1 [] 1 ([some (.ref 57)], [.ref 57], σ) rfl ?_ ?_
  · trivial
  refine ev_callV M_X6_all [] [] 57 rfl rfl ln_X6_169 k_X6_all rfl rfl rfl rfl rfl rfl (m_all σ) ?_
  rintro r σ1 ⟨rfl, h74, h75, hf1⟩
  have hR1 := SR_all hL h74 h75
  have hM1 := mOk_fr hM hf1 rfl
  have ha1 := atM_fr hf1 rfl
  have ht1 : tkM σ1 = tkM σ := tkM_fr (hf1.1 69 (by decide) (by decide))
  show xEv _ _ _ 4 ([some (.ref 57)], [], σ1)
  refine ev_blk 1 [] 5 ([some (.ref 57)], [.ref 57], σ1) rfl ?_ ?_
  · trivial
  refine ev_callV M_X6_fills [] [] 57 rfl rfl ln_X6_172 k_X6_fills rfl rfl rfl rfl rfl rfl (m_fills σ1 n A B hM1.1 hM1.2.1 hR1 hM1.2.2.1 hM1.2.2.2.1 hM1.2.2.2.2.1) ?_
  rintro r σ2 ⟨rfl, hF, hR2, hf2⟩
  rw [ha1, ht1] at hF hR2 ⊢
  have hfr : xFm scM scP σ σ2 := (hf1.mono rfl rfl).tr (hf2.mono rfl rfl)
  have ha2 : atM σ2 = atM σ := (atM_fr hf2 rfl).trans ha1
  show xEv _ _ _ 8 ([some (.ref 57)], [.int (nI (s_went (s_fill (atM σ) (tkM σ) A B)).length)], σ2)
  refine ev_br 0 [] (¬ (nI (s_went (s_fill (atM σ) (tkM σ) A B)).length) = 0) 17 11 ([some (.ref 57)], [], σ2) rfl ?_ (fun c8 => ?_) (fun c8 => ?_)
  · trivial
  · refine ev_blk 1 [] 18 ([some (.ref 57)], [.ref 57], σ2) rfl ?_ ?_
    · trivial
    refine ev_callV M_X6_spends [] [] 57 rfl rfl ln_X6_178 k_X6_spends rfl rfl rfl rfl rfl rfl (m_spends σ2 _ hF (mOk_went hM)) ?_
    refine pu_k ?_
    show xEv _ _ _ 21 ([some (.ref 57)], [.int (s_spend (atM σ2) (s_fill (atM σ) (tkM σ) A B).2.2.2.2.2.2)], σ2)
    refine ev_blk 1 [] 22 ([some (.ref 57)], [.long ((s_spend (atM σ2) (s_fill (atM σ) (tkM σ) A B).2.2.2.2.2.2).toInt64)], σ2) rfl ?_ ?_
    · trivial
    refine ev_lret rfl rfl ⟨?_, hfr⟩
    rw [ha2]
    cases hw : s_went (s_fill (atM σ) (tkM σ) A B) with
    | nil => rw [hw] at c8; exact absurd rfl c8
    | cons q t => rw [show (s_fill (atM σ) (tkM σ) A B).2.2.2.2.2.2 = q :: t from hw]; rfl
  · refine ev_blk 2 [] 22 ([some (.ref 57)], [.long ((-9223372036854775808 : Int64))], σ2) rfl ?_ ?_
    · trivial
    refine ev_lret rfl rfl ⟨?_, hfr⟩
    have hl10 : (s_went (s_fill (atM σ) (tkM σ) A B)).length ≤ 10 := hF.1
    have c8b := Classical.byContradiction c8
    cases hw : s_went (s_fill (atM σ) (tkM σ) A B) with
    | nil => rfl
    | cons q t => rw [hw] at c8b hl10; exact absurd c8b (nI_ne0 (by simp) (by omega))
def planM (σ : xSg) (wh : Int32) (V : Nat × Int32 × List Nat × List Nat) : Option Value → xSg → Prop := fun r σ2 => (∃ rI : Int32, r = some (.int rI) ∧ (wh = 0 → rI = nI V.1) ∧ (wh = 1 → ∀ j, j < 32 → bt rI j = decide (j ∈ V.2.2.1 ∨ j ∈ V.2.2.2)) ∧ (wh = 2 → rI = V.2.1)) ∧ xFm scM scP σ σ2
set_option maxRecDepth 100000 in
theorem m_pbits1 (σ1 : xSg) (A B : List Nat) (hR : SR σ1 A B) (h10 : ∀ x ∈ B, x < 10) (Q : Option Value → xSg → Prop) (wh wa b0 : Int32) (c : Nat) (hK : ∀ b1 : Int32, (∀ j, j < 32 → bt b1 j = (bt b0 j || decide (j ∈ B))) → xEv (.inl 4) M_X6_plan Q 46 ([some (.ref 57), some (.int (wh)), some (.int (nI c)), some (.int (wa)), some (.int (b1)), some (.int ((1 : Int32) + (1 : Int32))), none], [], σ1)) : ∀ (m k : Nat) (b : Int32), k + m = B.length → (∀ j, j < 32 → bt b j = (bt b0 j || decide (j ∈ B.take k))) → xEv (.inl 4) M_X6_plan Q 55 ([some (.ref 57), some (.int (wh)), some (.int (nI c)), some (.int (wa)), some (.int (b)), some (.int ((1 : Int32))), some (.int (nI k))], [], σ1) := by
  have hl : B.length ≤ 10 := hR.2.1
  have hs : σ1 75 1 = nI B.length := hR.2.2.2.2.2
  intro m
  induction m with
  | zero =>
    intro k b hk hb
    refine ev_br 5 [vp_in ((1 : Int32)) 2] (((σ1 75) 1) ≤ (nI k)) 93 67 ([some (.ref 57), some (.int (wh)), some (.int (nI c)), some (.int (wa)), some (.int (b)), some (.int ((1 : Int32))), some (.int (nI k))], [], σ1) rfl ?_ (fun c64 => ?_) (fun c64 => ?_)
    · exact vp_in_nI (n := 1) (by decide) (by decide)
    · refine ev_blk 2 [] 46 ([some (.ref 57), some (.int (wh)), some (.int (nI c)), some (.int (wa)), some (.int (b)), some (.int ((1 : Int32) + (1 : Int32))), some (.int (nI k))], [], σ1) rfl ?_ ?_
      · trivial
      refine ev_drop 6 ?_
      exact hK b (fun j hj => by rw [hb j hj, List.take_of_length_le (by omega)])
    · exact absurd (show σ1 75 1 ≤ nI k by rw [hs]; exact nI_le (by omega) (by omega)) c64
  | succ m ih =>
    intro k b hk hb
    obtain ⟨x, hx⟩ : ∃ x, B[k]? = some x := ⟨_, List.getElem?_eq_getElem (by omega)⟩
    have hx10 := h10 x (List.mem_of_getElem? hx)
    have hk0 : ((10 : Int32) * (1 : Int32)) + (nI k) = nI (10 + k) := by rw [show ((10 : Int32) * (1 : Int32)) = nI 10 from rfl, nI_add]
    have hc0 : (σ1 74) (((10 : Int32) * (1 : Int32)) + (nI k)).toNatClampNeg = nI x := by rw [hk0, nI_clamp (by omega)]; exact hR.2.2.2.1 k x hx
    refine ev_br 5 [vp_in ((1 : Int32)) 2] (((σ1 75) 1) ≤ (nI k)) 93 67 ([some (.ref 57), some (.int (wh)), some (.int (nI c)), some (.int (wa)), some (.int (b)), some (.int ((1 : Int32))), some (.int (nI k))], [], σ1) rfl ?_ (fun c64 => ?_) (fun c64 => ?_)
    · exact vp_in_nI (n := 1) (by decide) (by decide)
    · exact absurd c64 (show ¬ σ1 75 1 ≤ nI k by rw [hs]; exact nI_ge (by omega) (by omega))
    · refine ev_blk 15 [vp_in (((10 : Int32) * (1 : Int32)) + (nI k)) 20] 55 ([some (.ref 57), some (.int (wh)), some (.int (nI c)), some (.int (wa)), some (.int (b ||| ((1 : Int32) <<< (((σ1 74) (((10 : Int32) * (1 : Int32)) + (nI k)).toNatClampNeg) &&& 31)))), some (.int ((1 : Int32))), some (.int ((nI k) + (1 : Int32)))], [], σ1) rfl ?_ ?_
      · exact (by rw [hk0]; exact vp_in_nI (by omega) (by decide))
      rw [hc0]
      rw [nI_1]
      refine ih (k + 1) _ (by omega) (fun j hj => ?_)
      rw [b_setb (by omega) hj, hb j hj, List.take_add_one, hx, Bool.or_assoc, ← Bool.decide_or]
      congr 1
      exact decide_eq_decide.mpr (by simp)
set_option maxRecDepth 100000 in
theorem m_pbits0 (σ1 : xSg) (A B : List Nat) (hR : SR σ1 A B) (h10 : ∀ x ∈ A, x < 10) (Q : Option Value → xSg → Prop) (wh wa b0 : Int32) (c : Nat) (hK : ∀ b1 : Int32, (∀ j, j < 32 → bt b1 j = (bt b0 j || decide (j ∈ A))) → xEv (.inl 4) M_X6_plan Q 46 ([some (.ref 57), some (.int (wh)), some (.int (nI c)), some (.int (wa)), some (.int (b1)), some (.int ((0 : Int32) + (1 : Int32))), none], [], σ1)) : ∀ (m k : Nat) (b : Int32), k + m = A.length → (∀ j, j < 32 → bt b j = (bt b0 j || decide (j ∈ A.take k))) → xEv (.inl 4) M_X6_plan Q 55 ([some (.ref 57), some (.int (wh)), some (.int (nI c)), some (.int (wa)), some (.int (b)), some (.int ((0 : Int32))), some (.int (nI k))], [], σ1) := by
  have hl : A.length ≤ 10 := hR.1
  have hs : σ1 75 0 = nI A.length := hR.2.2.2.2.1
  intro m
  induction m with
  | zero =>
    intro k b hk hb
    refine ev_br 5 [vp_in ((0 : Int32)) 2] (((σ1 75) 0) ≤ (nI k)) 93 67 ([some (.ref 57), some (.int (wh)), some (.int (nI c)), some (.int (wa)), some (.int (b)), some (.int ((0 : Int32))), some (.int (nI k))], [], σ1) rfl ?_ (fun c64 => ?_) (fun c64 => ?_)
    · exact vp_in_nI (n := 0) (by decide) (by decide)
    · refine ev_blk 2 [] 46 ([some (.ref 57), some (.int (wh)), some (.int (nI c)), some (.int (wa)), some (.int (b)), some (.int ((0 : Int32) + (1 : Int32))), some (.int (nI k))], [], σ1) rfl ?_ ?_
      · trivial
      refine ev_drop 6 ?_
      exact hK b (fun j hj => by rw [hb j hj, List.take_of_length_le (by omega)])
    · exact absurd (show σ1 75 0 ≤ nI k by rw [hs]; exact nI_le (by omega) (by omega)) c64
  | succ m ih =>
    intro k b hk hb
    obtain ⟨x, hx⟩ : ∃ x, A[k]? = some x := ⟨_, List.getElem?_eq_getElem (by omega)⟩
    have hx10 := h10 x (List.mem_of_getElem? hx)
    have hk0 : ((10 : Int32) * (0 : Int32)) + (nI k) = nI (0 + k) := by rw [show ((10 : Int32) * (0 : Int32)) = nI 0 from rfl, nI_add]
    have hc0 : (σ1 74) (((10 : Int32) * (0 : Int32)) + (nI k)).toNatClampNeg = nI x := by rw [hk0, nI_clamp (by omega)]; rw [Nat.zero_add]; exact hR.2.2.1 k x hx
    refine ev_br 5 [vp_in ((0 : Int32)) 2] (((σ1 75) 0) ≤ (nI k)) 93 67 ([some (.ref 57), some (.int (wh)), some (.int (nI c)), some (.int (wa)), some (.int (b)), some (.int ((0 : Int32))), some (.int (nI k))], [], σ1) rfl ?_ (fun c64 => ?_) (fun c64 => ?_)
    · exact vp_in_nI (n := 0) (by decide) (by decide)
    · exact absurd c64 (show ¬ σ1 75 0 ≤ nI k by rw [hs]; exact nI_ge (by omega) (by omega))
    · refine ev_blk 15 [vp_in (((10 : Int32) * (0 : Int32)) + (nI k)) 20] 55 ([some (.ref 57), some (.int (wh)), some (.int (nI c)), some (.int (wa)), some (.int (b ||| ((1 : Int32) <<< (((σ1 74) (((10 : Int32) * (0 : Int32)) + (nI k)).toNatClampNeg) &&& 31)))), some (.int ((0 : Int32))), some (.int ((nI k) + (1 : Int32)))], [], σ1) rfl ?_ ?_
      · exact (by rw [hk0]; exact vp_in_nI (by omega) (by decide))
      rw [hc0]
      rw [nI_1]
      refine ih (k + 1) _ (by omega) (fun j hj => ?_)
      rw [b_setb (by omega) hj, hb j hj, List.take_add_one, hx, Bool.or_assoc, ← Bool.decide_or]
      congr 1
      exact decide_eq_decide.mpr (by simp)
set_option maxRecDepth 100000 in
theorem m_pend (σ : xSg) (wh : Int32) (V : Nat × Int32 × List Nat × List Nat) (σ1 : xSg) (c : Nat) (wa : Int32) (A B : List Nat) (hR : SR σ1 A B) (hA : ∀ x ∈ A, x < 10) (hB : ∀ x ∈ B, x < 10) (hV : V = (c, wa, A, B)) (hfr : xFm scM scP σ σ1) : xEv (.inl 4) M_X6_plan (planM σ wh V) 40 ([some (.ref 57), some (.int (wh)), some (.int (nI c)), some (.int (wa)), none, none, none], [], σ1) := by
  subst hV
  refine ev_br 6 [] ((2 : Int32) ≤ (0 : Int32)) 99 52 ([some (.ref 57), some (.int (wh)), some (.int (nI c)), some (.int (wa)), some (.int ((0 : Int32))), some (.int ((0 : Int32))), none], [], σ1) rfl ?_ (fun c49 => ?_) (fun c49 => ?_)
  · trivial
  · exact absurd c49 (by decide)
  · refine ev_blk 2 [] 55 ([some (.ref 57), some (.int (wh)), some (.int (nI c)), some (.int (wa)), some (.int ((0 : Int32))), some (.int ((0 : Int32))), some (.int ((0 : Int32)))], [], σ1) rfl ?_ ?_
    · trivial
    refine m_pbits0 σ1 A B hR hA _ wh wa 0 c (fun b1 h0 => ?_) A.length 0 0 (by omega) (fun j hj => by simp [b_0])
    rw [show (0 : Int32) + (1 : Int32) = 1 from rfl]
    show xEv _ _ _ 46 ([some (.ref 57), some (.int (wh)), some (.int (nI c)), some (.int (wa)), some (.int (b1)), some (.int ((1 : Int32))), none], [], σ1)
    refine ev_br 2 [] ((2 : Int32) ≤ (1 : Int32)) 99 52 ([some (.ref 57), some (.int (wh)), some (.int (nI c)), some (.int (wa)), some (.int (b1)), some (.int ((1 : Int32))), none], [], σ1) rfl ?_ (fun c49 => ?_) (fun c49 => ?_)
    · trivial
    · exact absurd c49 (by decide)
    · refine ev_blk 2 [] 55 ([some (.ref 57), some (.int (wh)), some (.int (nI c)), some (.int (wa)), some (.int (b1)), some (.int ((1 : Int32))), some (.int ((0 : Int32)))], [], σ1) rfl ?_ ?_
      · trivial
      refine m_pbits1 σ1 A B hR hB _ wh wa b1 c (fun b2 h1 => ?_) B.length 0 b1 (by omega) (fun j hj => by simp)
      rw [show (1 : Int32) + (1 : Int32) = 2 from rfl]
      show xEv _ _ _ 46 ([some (.ref 57), some (.int (wh)), some (.int (nI c)), some (.int (wa)), some (.int (b2)), some (.int ((2 : Int32))), none], [], σ1)
      refine ev_br 2 [] ((2 : Int32) ≤ (2 : Int32)) 99 52 ([some (.ref 57), some (.int (wh)), some (.int (nI c)), some (.int (wa)), some (.int (b2)), some (.int ((2 : Int32))), none], [], σ1) rfl ?_ (fun c49 => ?_) (fun c49 => ?_)
      · trivial
      · refine ev_br 1 [] (¬ wh = 0) 107 103 ([some (.ref 57), some (.int (wh)), some (.int (nI c)), some (.int (wa)), some (.int (b2)), some (.int ((2 : Int32))), none], [], σ1) rfl ?_ (fun c100 => ?_) (fun c100 => ?_)
        · trivial
        · refine ev_br 2 [] (¬ wh = (1 : Int32)) 117 112 ([some (.ref 57), some (.int (wh)), some (.int (nI c)), some (.int (wa)), some (.int (b2)), some (.int ((2 : Int32))), none], [], σ1) rfl ?_ (fun c109 => ?_) (fun c109 => ?_)
          · trivial
          · refine ev_blk 1 [] 118 ([some (.ref 57), some (.int (wh)), some (.int (nI c)), some (.int (wa)), some (.int (b2)), some (.int ((2 : Int32))), none], [.int (wa)], σ1) rfl ?_ ?_
            · trivial
            exact ev_iret rfl rfl rfl ⟨⟨_, rfl, fun q => absurd q c100, fun q => absurd q c109, fun _ => rfl⟩, hfr⟩
          · refine ev_blk 2 [] 118 ([some (.ref 57), some (.int (wh)), some (.int (nI c)), some (.int (wa)), some (.int (b2)), some (.int ((2 : Int32))), none], [.int (b2)], σ1) rfl ?_ ?_
            · trivial
            exact ev_iret rfl rfl rfl ⟨⟨_, rfl, fun q => absurd q c100, fun _ => (fun j hj => by rw [h1 j hj, h0 j hj, b_0, Bool.false_or, ← Bool.decide_or]), fun q => absurd (Classical.byContradiction c109) (by rw [q]; decide)⟩, hfr⟩
        · refine ev_blk 2 [] 118 ([some (.ref 57), some (.int (wh)), some (.int (nI c)), some (.int (wa)), some (.int (b2)), some (.int ((2 : Int32))), none], [.int (nI c)], σ1) rfl ?_ ?_
          · trivial
          exact ev_iret rfl rfl rfl ⟨⟨_, rfl, fun _ => rfl, fun q => absurd (Classical.byContradiction c100) (by rw [q]; decide), fun q => absurd (Classical.byContradiction c100) (by rw [q]; decide)⟩, hfr⟩
      · exact absurd (by decide) c49
set_option maxRecDepth 100000 in
theorem m_plan_lp (σ : xSg) (n : Nat) (a : sAt) (tk : sTk) (ha : atM σ = a) (ht : tkM σ = tk) (wh : Int32) (V : Nat × Int32 × List Nat × List Nat) : ∀ (m c : Nat) (wa : Int32) (A B : List Nat) (σ1 : xSg), A.length + B.length ≤ m → mOk σ1 n A B → SR σ1 A B → xFm scM scP σ σ1 → s_plan a tk m A B c wa = V → xEv (.inl 4) M_X6_plan (planM σ wh V) 20 ([some (.ref 57), some (.int (wh)), some (.int (nI c)), some (.int (wa)), none, none, none], [], σ1) := by
  intro m
  induction m with
  | zero =>
    intro c wa A B σ1 hm hM1 hR1 hfr hV
    have ha1 : atM σ1 = a := (atM_fr hfr rfl).trans ha
    have ht1 : tkM σ1 = tk := (tkM_fr (hfr.1 69 (by decide) (by decide))).trans ht
    have hn10 := hM1.1.1
    have hw0 : s_went (s_fill a tk A B) = [] := Classical.byContradiction (fun q => by have := mOk_less (a := a) (tk := tk) hM1 q; omega)
    refine ev_blk 1 [] 21 ([some (.ref 57), some (.int (wh)), some (.int (nI c)), some (.int (wa)), none, none, none], [.ref 57], σ1) rfl ?_ ?_
    · trivial
    refine ev_callV M_X6_fills [] [] 57 rfl rfl ln_X6_172 k_X6_fills rfl rfl rfl rfl rfl rfl (m_fills σ1 n A B hM1.1 hM1.2.1 hR1 hM1.2.2.1 hM1.2.2.2.1 hM1.2.2.2.2.1) ?_
    rintro r σ2 ⟨rfl, hF, hR2, hf2⟩
    rw [ha1, ht1] at hF hR2 ⊢
    have hfr2 : xFm scM scP σ σ2 := hfr.tr (hf2.mono rfl rfl)
    have hl10 : (s_went (s_fill a tk A B)).length ≤ 10 := hF.1
    show xEv _ _ _ 24 ([some (.ref 57), some (.int (wh)), some (.int (nI c)), some (.int (wa)), none, none, none], [.int (nI (s_went (s_fill a tk A B)).length)], σ2)
    refine ev_br 0 [] ((nI (s_went (s_fill a tk A B)).length) ≤ 0) 40 27 ([some (.ref 57), some (.int (wh)), some (.int (nI c)), some (.int (wa)), none, none, none], [], σ2) rfl ?_ (fun c24 => ?_) (fun c24 => ?_)
    · trivial
    · obtain ⟨e1, e2⟩ := mOk_none (a := a) (tk := tk) hM1 hw0
      rw [e1, e2] at hR2
      exact m_pend σ wh V σ2 c wa A B hR2 (fun x hx => by have := hM1.2.2.1 x hx; omega) (fun x hx => by have := hM1.2.2.2.1 x hx; omega) hV.symm hfr2
    · exact absurd (by rw [hw0]; decide) c24
  | succ m ih =>
    intro c wa A B σ1 hm hM1 hR1 hfr hV
    have ha1 : atM σ1 = a := (atM_fr hfr rfl).trans ha
    have ht1 : tkM σ1 = tk := (tkM_fr (hfr.1 69 (by decide) (by decide))).trans ht
    have hn10 := hM1.1.1
    refine ev_blk 1 [] 21 ([some (.ref 57), some (.int (wh)), some (.int (nI c)), some (.int (wa)), none, none, none], [.ref 57], σ1) rfl ?_ ?_
    · trivial
    refine ev_callV M_X6_fills [] [] 57 rfl rfl ln_X6_172 k_X6_fills rfl rfl rfl rfl rfl rfl (m_fills σ1 n A B hM1.1 hM1.2.1 hR1 hM1.2.2.1 hM1.2.2.2.1 hM1.2.2.2.2.1) ?_
    rintro r σ2 ⟨rfl, hF, hR2, hf2⟩
    rw [ha1, ht1] at hF hR2 ⊢
    have hfr2 : xFm scM scP σ σ2 := hfr.tr (hf2.mono rfl rfl)
    have hl10 : (s_went (s_fill a tk A B)).length ≤ 10 := hF.1
    show xEv _ _ _ 24 ([some (.ref 57), some (.int (wh)), some (.int (nI c)), some (.int (wa)), none, none, none], [.int (nI (s_went (s_fill a tk A B)).length)], σ2)
    refine ev_br 0 [] ((nI (s_went (s_fill a tk A B)).length) ≤ 0) 40 27 ([some (.ref 57), some (.int (wh)), some (.int (nI c)), some (.int (wa)), none, none, none], [], σ2) rfl ?_ (fun c24 => ?_) (fun c24 => ?_)
    · trivial
    · have hw0 : s_went (s_fill a tk A B) = [] := by
        cases hww : s_went (s_fill a tk A B) with
        | nil => rfl
        | cons q t => rw [hww] at c24 hl10; exact absurd c24 (nI_nle (by simp) (by omega))
      obtain ⟨e1, e2⟩ := mOk_none (a := a) (tk := tk) hM1 hw0
      rw [e1, e2] at hR2
      refine m_pend σ wh V σ2 c wa A B hR2 (fun x hx => by have := hM1.2.2.1 x hx; omega) (fun x hx => by have := hM1.2.2.2.1 x hx; omega) ?_ hfr2
      rw [← hV, s_plan, hw0]
    · refine ev_blk 3 [] 32 ([some (.ref 57), some (.int (wh)), some (.int ((nI c) + (1 : Int32))), some (.int (wa)), none, none, none], [.ref 57, .int (wa)], σ2) rfl ?_ ?_
      · trivial
      refine ev_callV M_X6_spends [] [.int (wa)] 57 rfl rfl ln_X6_178 k_X6_spends rfl rfl rfl rfl rfl rfl (m_spends σ2 _ hF (mOk_went hM1)) ?_
      refine pu_k ?_
      show xEv _ _ _ 35 ([some (.ref 57), some (.int (wh)), some (.int ((nI c) + (1 : Int32))), some (.int (wa)), none, none, none], [.int (s_spend (atM σ2) (s_fill a tk A B).2.2.2.2.2.2), .int (wa)], σ2)
      refine ev_blk 3 [] 20 ([some (.ref 57), some (.int (wh)), some (.int ((nI c) + (1 : Int32))), some (.int (wa + (s_spend (atM σ2) (s_fill a tk A B).2.2.2.2.2.2))), none, none, none], [], σ2) rfl ?_ ?_
      · trivial
      have ha2 : atM σ2 = a := (atM_fr hf2 rfl).trans ha1
      have hwn : s_went (s_fill a tk A B) ≠ [] := fun q => c24 (by rw [q]; decide)
      rw [nI_1, ha2]
      refine ih (c + 1) _ _ _ σ2 (by have := mOk_less hM1 hwn; omega) (mOk_nx (mOk_fr hM1 hf2 rfl)) hR2 hfr2 ?_
      rw [← hV, s_plan]
      cases hww : s_went (s_fill a tk A B) with
      | nil => exact absurd hww hwn
      | cons q t => rw [show (s_fill a tk A B).2.2.2.2.2.2 = q :: t from hww]
set_option maxRecDepth 100000 in
theorem m_planP (σ : xSg) (n : Nat) (A B : List Nat) (hM : mOk σ n A B) (hL : LR σ A B) (wh : Int32) : xCtr M_X6_plan [.ref 57, .int wh] σ (fun r σ2 => (∃ rI : Int32, r = some (.int rI) ∧ ((wh < 0 ∨ 2 < wh) → rI = -2) ∧ (wh = 0 → rI = nI (s_plan (atM σ) (tkM σ) 10 A B 0 0).1) ∧ (wh = 1 → ∀ j, j < 32 → bt rI j = decide (j ∈ (s_plan (atM σ) (tkM σ) 10 A B 0 0).2.2.1 ∨ j ∈ (s_plan (atM σ) (tkM σ) 10 A B 0 0).2.2.2)) ∧ (wh = 2 → rI = (s_plan (atM σ) (tkM σ) 10 A B 0 0).2.1)) ∧ xFm scM scP σ σ2) := by
  refine ctr_ev ok_X6_plan (by decide +kernel) rfl rfl rfl ?_
  show xEv (.inl 4) M_X6_plan _ 0 ([some (.ref 57), some (.int (wh)), none, none, none, none, none], [], σ)
  refine ev_blk 3 [] 3 ([some (.ref 57), some (.int (wh)), none, none, none, none, none], [.int ((2 : Int32)), .int ((0 : Int32)), .int (wh)], σ) rfl ?_ ?_
  · trivial
  refine ev_callS M_X6_within [.int (wh), .int ((0 : Int32)), .int ((2 : Int32))] [] rfl rfl ln_X6_110 k_X6_within rfl rfl rfl (m_within _ _ _ _) ?_
  refine pu_k ?_
  show xEv _ _ _ 6 ([some (.ref 57), some (.int (wh)), none, none, none, none, none], [.int (zi (¬ wh < (0 : Int32) ∧ ¬ (2 : Int32) < wh))], σ)
  refine ev_br 0 [] (¬ (zi (¬ wh < (0 : Int32) ∧ ¬ (2 : Int32) < wh)) = 0) 12 9 ([some (.ref 57), some (.int (wh)), none, none, none, none, none], [], σ) rfl ?_ (fun c6 => ?_) (fun c6 => ?_)
  · trivial
  · replace c6 := zi_1.mp c6
    refine ev_blk 1 [] 13 ([some (.ref 57), some (.int (wh)), none, none, none, none, none], [.ref 57], σ) rfl ?_ ?_
    · trivial
    refine ev_callV M_X6_all [] [] 57 rfl rfl ln_X6_169 k_X6_all rfl rfl rfl rfl rfl rfl (m_all σ) ?_
    rintro r σ1 ⟨rfl, h74, h75, hf1⟩
    have hR1 := SR_all hL h74 h75
    have hM1 := mOk_fr hM hf1 rfl
    have ha1 := atM_fr hf1 rfl
    have ht1 : tkM σ1 = tkM σ := tkM_fr (hf1.1 69 (by decide) (by decide))
    show xEv _ _ _ 16 ([some (.ref 57), some (.int (wh)), none, none, none, none, none], [], σ1)
    refine ev_blk 4 [] 20 ([some (.ref 57), some (.int (wh)), some (.int ((0 : Int32))), some (.int ((0 : Int32))), none, none, none], [], σ1) rfl ?_ ?_
    · trivial
    refine ev_post ?_ (m_plan_lp σ n _ _ rfl rfl wh _ 10 0 0 A B σ1 hM.2.2.2.2.1 hM1 hR1 (hf1.mono rfl rfl) rfl)
    rintro r σ2 ⟨⟨rI, h1, h2, h3, h4⟩, h5⟩
    exact ⟨⟨rI, h1, fun q => absurd q (by rintro (q | q); exact c6.1 q; exact c6.2 q), h2, h3, h4⟩, h5⟩
  · replace c6 := zi_n.mp c6
    refine ev_blk 1 [] 11 ([some (.ref 57), some (.int (wh)), none, none, none, none, none], [.int ((-2 : Int32))], σ) rfl ?_ ?_
    · trivial
    refine ev_iret rfl rfl rfl ⟨⟨_, rfl, fun _ => rfl, fun q => absurd (show ¬ wh < 0 ∧ ¬ 2 < wh by rw [q]; decide) c6, fun q => absurd (show ¬ wh < 0 ∧ ¬ 2 < wh by rw [q]; decide) c6, fun q => absurd (show ¬ wh < 0 ∧ ¬ 2 < wh by rw [q]; decide) c6⟩, xFm.rf⟩
