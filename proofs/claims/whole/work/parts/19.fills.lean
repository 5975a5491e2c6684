theorem MR_fr {S P : List Nat} {σ σ' : xSg} {F : sFl} (h : MR σ F) (hf : xFm S P σ σ') (hS : (S.all fun c => !([76, 77, 78, 79] : List Nat).contains c) = true) (hP : (P.all fun c => !([23] : List Nat).contains c) = true) : MR σ' F := by
  have k : ∀ c, ([76, 77, 78, 79] : List Nat).contains c = true → c ≠ 57 → σ' c = σ c := fun c hc hn => hf.1 c (fun q => by
    have := List.all_eq_true.mp hS c q
    rw [hc] at this
    cases this) hn
  have k2 : σ' 57 23 = σ 57 23 := hf.2 23 (fun q => by
    have := List.all_eq_true.mp hP 23 q
    cases this)
  unfold MR
  rw [k 76 rfl (by decide), k 77 rfl (by decide), k 78 rfl (by decide), k 79 rfl (by decide), k2]
  exact h
theorem SR_fr {σ σ' : xSg} {A B : List Nat} (h : SR σ A B) (h74 : σ' 74 = σ 74) (h75 : σ' 75 = σ 75) : SR σ' A B := by
  unfold SR
  rw [h74, h75]
  exact h
theorem atM_fr {S P : List Nat} {σ σ1 : xSg} (h : xFm S P σ σ1) (hS : (S.all fun c => !([58, 59, 60, 61, 62, 63, 68] : List Nat).contains c) = true) : atM σ1 = atM σ := by
  have k : ∀ c, ([58, 59, 60, 61, 62, 63, 68] : List Nat).contains c = true → c ≠ 57 → σ1 c = σ c := fun c hc hn => h.1 c (fun q => by
    have := List.all_eq_true.mp hS c q
    rw [hc] at this
    cases this) hn
  unfold atM
  rw [k 58 rfl (by decide), k 59 rfl (by decide), k 60 rfl (by decide), k 61 rfl (by decide), k 62 rfl (by decide), k 63 rfl (by decide), k 68 rfl (by decide)]
theorem sA_ne {x : Int32} {A : List Nat} (h : ¬ x ≤ 0) (hl : x = nI A.length) : ∃ y t, A = y :: t := by
  cases A with
  | nil => exact absurd (by rw [hl]; decide) h
  | cons y t => exact ⟨y, t, rfl⟩
theorem sA_nil {x : Int32} {A : List Nat} (h : x ≤ 0) (hl : x = nI A.length) (h10 : A.length ≤ 10) : A = [] := by
  cases A with
  | nil => rfl
  | cons y t => exact absurd (by rw [← hl]; exact h) (nI_nle (n := (y :: t).length) (by simp) (by omega))
theorem SR_step0 {σ σ' : xSg} {x : Nat} {t B : List Nat} (h : SR σ (x :: t) B) (h74 : ∀ j, σ' 74 j = s_shf (σ 74) 0 (t.length + 1) j) (h75 : σ' 75 = upd (σ 75) 0 (nI t.length)) : SR σ' t B := by
  obtain ⟨h1, h2, h3, h4, h5, h6⟩ := h
  simp only [List.length_cons] at h1
  refine ⟨by omega, h2, fun i y hi => ?_, fun i y hi => ?_, by rw [h75, upd_eq], by rw [h75, upd_ne (by decide)]; exact h6⟩
  · have hil := (List.getElem?_eq_some_iff.mp hi).1
    rw [h74]
    unfold s_shf
    rw [if_pos (by omega)]
    exact h3 (i + 1) y (by simpa using hi)
  · rw [h74]
    unfold s_shf
    rw [if_neg (by omega)]
    exact h4 i y hi
theorem SR_step1 {σ σ' : xSg} {x : Nat} {t A : List Nat} (h : SR σ A (x :: t)) (h74 : ∀ j, σ' 74 j = s_shf (σ 74) 10 (t.length + 1) j) (h75 : σ' 75 = upd (σ 75) 1 (nI t.length)) : SR σ' A t := by
  obtain ⟨h1, h2, h3, h4, h5, h6⟩ := h
  simp only [List.length_cons] at h2
  refine ⟨h1, by omega, fun i y hi => ?_, fun i y hi => ?_, by rw [h75, upd_ne (by decide)]; exact h5, by rw [h75, upd_eq]⟩
  · have hil := (List.getElem?_eq_some_iff.mp hi).1
    rw [h74]
    unfold s_shf
    rw [if_neg (by omega)]
    exact h3 i y hi
  · have hil := (List.getElem?_eq_some_iff.mp hi).1
    rw [h74]
    unfold s_shf
    rw [if_pos (by omega), show 10 + i + 1 = 10 + (i + 1) by omega]
    exact h4 (i + 1) y (by simpa using hi)
def fQ (σ : xSg) (T : sSt) : Option Value → xSg → Prop := fun r σ' => r = some (.int (nI (s_went T).length)) ∧ MR σ' T.2.2.2.2.2 ∧ SR σ' T.1 T.2.1 ∧ xFm [74, 75, 76, 77, 78, 79] [23] σ σ'
set_option maxRecDepth 100000 in
theorem m_fills_t0 (Q : Option Value → xSg → Prop) (σ1 : xSg) (s0 s1 la : Int32) (x n : Nat) (t : List Nat) (B : List Nat) (F : sFl) (hok : aOk (atM σ1) n) (hx : x < n) (hR : SR σ1 (x :: t) B) (hF : MR σ1 F) (hl : F.2.length < 10) (hFn : ∀ q ∈ F.2, q.1 < n) (kS : ∀ (F2 : sFl) (σ2 : xSg), s_in (atM σ1) x F = some F2 → MR σ2 F2 → SR σ2 t B → xFm [74, 75, 76, 77, 78, 79] [23] σ1 σ2 → xEv (.inl 3) M_X6_fills Q 10 ([some (.ref 57), some (.int (s0)), some (.int (s1)), some (.int ((0 : Int32))), none, none, none], [], σ2)) (kN : s_in (atM σ1) x F = none → xEv (.inl 3) M_X6_fills Q 10 ([some (.ref 57), some (.int ((1 : Int32))), some (.int (s1)), some (.int (la)), none, none, none], [], σ1)) : xEv (.inl 3) M_X6_fills Q 103 ([some (.ref 57), some (.int (s0)), some (.int (s1)), some (.int (la)), none, none, some (.int ((0 : Int32)))], [], σ1) := by
  have hn10 := hok.1
  have hst : (σ1 74) ((10 : Int32) * (0 : Int32)).toNatClampNeg = nI x := hR.2.2.1 0 x rfl
  refine ev_blk 7 [vp_in ((10 : Int32) * (0 : Int32)) 20] 114 ([some (.ref 57), some (.int (s0)), some (.int (s1)), some (.int (la)), none, none, some (.int ((0 : Int32)))], [.int ((σ1 74) ((10 : Int32) * (0 : Int32)).toNatClampNeg), .ref 57], σ1) rfl ?_ ?_
  · exact vp_in_nI (n := 0) (by decide) (by decide)
  rw [hst]
  refine ev_callV M_X6_goesIn [.int (nI x)] [] 57 rfl rfl ln_X6_162 k_X6_goesIn rfl rfl rfl rfl rfl rfl (m_goesIn σ1 x F n hok hx hF hl hFn) ?_
  rintro r σ2 (⟨F2, hF2, rfl, hM2, hf2⟩ | ⟨hN, rfl, e2⟩)
  · have hR2 : SR σ2 (x :: t) B := SR_fr hR (hf2.1 74 (by decide) (by decide)) (hf2.1 75 (by decide) (by decide))
    show xEv _ _ _ 117 ([some (.ref 57), some (.int (s0)), some (.int (s1)), some (.int (la)), none, none, some (.int ((0 : Int32)))], [.int ((1 : Int32))], σ2)
    refine ev_br 0 [] ((1 : Int32) = 0) 132 120 ([some (.ref 57), some (.int (s0)), some (.int (s1)), some (.int (la)), none, none, some (.int ((0 : Int32)))], [], σ2) rfl ?_ (fun c117 => ?_) (fun c117 => ?_)
    · trivial
    · exact absurd c117 (by decide)
    · refine ev_blk 2 [] 123 ([some (.ref 57), some (.int (s0)), some (.int (s1)), some (.int (la)), none, none, some (.int ((0 : Int32)))], [.int ((0 : Int32)), .ref 57], σ2) rfl ?_ ?_
      · trivial
      refine ev_callV M_X6_stepsOn [.int ((0 : Int32))] [] 57 rfl rfl ln_X6_165 k_X6_stepsOn rfl rfl rfl rfl rfl rfl (m_stepsOn0 σ2 t (by have := hR2.2.2.2.2.1; simpa using this) (by have := hR2.1; simpa using this)) ?_
      rintro r σ3 ⟨rfl, h74, h75, hf3⟩
      show xEv _ _ _ 126 ([some (.ref 57), some (.int (s0)), some (.int (s1)), some (.int (la)), none, none, some (.int ((0 : Int32)))], [], σ3)
      refine ev_blk 4 [] 10 ([some (.ref 57), some (.int (s0)), some (.int (s1)), some (.int ((0 : Int32))), none, none, some (.int ((0 : Int32)))], [], σ3) rfl ?_ ?_
      · trivial
      refine ev_drop 6 ?_
      refine kS F2 σ3 hF2 (MR_fr hM2 hf3 rfl rfl) (SR_step0 hR2 h74 h75) ?_
      exact (hf2.mono rfl rfl).tr (hf3.mono rfl rfl)
  · rw [e2]
    show xEv _ _ _ 117 ([some (.ref 57), some (.int (s0)), some (.int (s1)), some (.int (la)), none, none, some (.int ((0 : Int32)))], [.int ((0 : Int32))], σ1)
    refine ev_br 0 [] ((0 : Int32) = 0) 132 120 ([some (.ref 57), some (.int (s0)), some (.int (s1)), some (.int (la)), none, none, some (.int ((0 : Int32)))], [], σ1) rfl ?_ (fun c117 => ?_) (fun c117 => ?_)
    · trivial
    · refine ev_br 1 [] (¬ (0 : Int32) = 0) 142 137 ([some (.ref 57), some (.int (s0)), some (.int (s1)), some (.int (la)), none, none, some (.int ((0 : Int32)))], [], σ1) rfl ?_ (fun c134 => ?_) (fun c134 => ?_)
      · trivial
      · exact absurd rfl c134
      · refine ev_blk 4 [] 10 ([some (.ref 57), some (.int ((1 : Int32))), some (.int (s1)), some (.int (la)), none, none, some (.int ((0 : Int32)))], [], σ1) rfl ?_ ?_
        · trivial
        refine ev_drop 6 ?_
        exact kN hN
    · exact absurd rfl c117
set_option maxRecDepth 100000 in
theorem m_fills_t1 (Q : Option Value → xSg → Prop) (σ1 : xSg) (s0 s1 la : Int32) (x n : Nat) (t : List Nat) (A : List Nat) (F : sFl) (hok : aOk (atM σ1) n) (hx : x < n) (hR : SR σ1 A (x :: t)) (hF : MR σ1 F) (hl : F.2.length < 10) (hFn : ∀ q ∈ F.2, q.1 < n) (kS : ∀ (F2 : sFl) (σ2 : xSg), s_in (atM σ1) x F = some F2 → MR σ2 F2 → SR σ2 A t → xFm [74, 75, 76, 77, 78, 79] [23] σ1 σ2 → xEv (.inl 3) M_X6_fills Q 10 ([some (.ref 57), some (.int (s0)), some (.int (s1)), some (.int ((1 : Int32))), none, none, none], [], σ2)) (kN : s_in (atM σ1) x F = none → xEv (.inl 3) M_X6_fills Q 10 ([some (.ref 57), some (.int (s0)), some (.int ((1 : Int32))), some (.int (la)), none, none, none], [], σ1)) : xEv (.inl 3) M_X6_fills Q 103 ([some (.ref 57), some (.int (s0)), some (.int (s1)), some (.int (la)), none, none, some (.int ((1 : Int32)))], [], σ1) := by
  have hn10 := hok.1
  have hst : (σ1 74) ((10 : Int32) * (1 : Int32)).toNatClampNeg = nI x := hR.2.2.2.1 0 x rfl
  refine ev_blk 7 [vp_in ((10 : Int32) * (1 : Int32)) 20] 114 ([some (.ref 57), some (.int (s0)), some (.int (s1)), some (.int (la)), none, none, some (.int ((1 : Int32)))], [.int ((σ1 74) ((10 : Int32) * (1 : Int32)).toNatClampNeg), .ref 57], σ1) rfl ?_ ?_
  · exact vp_in_nI (n := 10) (by decide) (by decide)
  rw [hst]
  refine ev_callV M_X6_goesIn [.int (nI x)] [] 57 rfl rfl ln_X6_162 k_X6_goesIn rfl rfl rfl rfl rfl rfl (m_goesIn σ1 x F n hok hx hF hl hFn) ?_
  rintro r σ2 (⟨F2, hF2, rfl, hM2, hf2⟩ | ⟨hN, rfl, e2⟩)
  · have hR2 : SR σ2 A (x :: t) := SR_fr hR (hf2.1 74 (by decide) (by decide)) (hf2.1 75 (by decide) (by decide))
    show xEv _ _ _ 117 ([some (.ref 57), some (.int (s0)), some (.int (s1)), some (.int (la)), none, none, some (.int ((1 : Int32)))], [.int ((1 : Int32))], σ2)
    refine ev_br 0 [] ((1 : Int32) = 0) 132 120 ([some (.ref 57), some (.int (s0)), some (.int (s1)), some (.int (la)), none, none, some (.int ((1 : Int32)))], [], σ2) rfl ?_ (fun c117 => ?_) (fun c117 => ?_)
    · trivial
    · exact absurd c117 (by decide)
    · refine ev_blk 2 [] 123 ([some (.ref 57), some (.int (s0)), some (.int (s1)), some (.int (la)), none, none, some (.int ((1 : Int32)))], [.int ((1 : Int32)), .ref 57], σ2) rfl ?_ ?_
      · trivial
      refine ev_callV M_X6_stepsOn [.int ((1 : Int32))] [] 57 rfl rfl ln_X6_165 k_X6_stepsOn rfl rfl rfl rfl rfl rfl (m_stepsOn1 σ2 t (by have := hR2.2.2.2.2.2; simpa using this) (by have := hR2.2.1; simpa using this)) ?_
      rintro r σ3 ⟨rfl, h74, h75, hf3⟩
      show xEv _ _ _ 126 ([some (.ref 57), some (.int (s0)), some (.int (s1)), some (.int (la)), none, none, some (.int ((1 : Int32)))], [], σ3)
      refine ev_blk 4 [] 10 ([some (.ref 57), some (.int (s0)), some (.int (s1)), some (.int ((1 : Int32))), none, none, some (.int ((1 : Int32)))], [], σ3) rfl ?_ ?_
      · trivial
      refine ev_drop 6 ?_
      refine kS F2 σ3 hF2 (MR_fr hM2 hf3 rfl rfl) (SR_step1 hR2 h74 h75) ?_
      exact (hf2.mono rfl rfl).tr (hf3.mono rfl rfl)
  · rw [e2]
    show xEv _ _ _ 117 ([some (.ref 57), some (.int (s0)), some (.int (s1)), some (.int (la)), none, none, some (.int ((1 : Int32)))], [.int ((0 : Int32))], σ1)
    refine ev_br 0 [] ((0 : Int32) = 0) 132 120 ([some (.ref 57), some (.int (s0)), some (.int (s1)), some (.int (la)), none, none, some (.int ((1 : Int32)))], [], σ1) rfl ?_ (fun c117 => ?_) (fun c117 => ?_)
    · trivial
    · refine ev_br 1 [] (¬ (1 : Int32) = 0) 142 137 ([some (.ref 57), some (.int (s0)), some (.int (s1)), some (.int (la)), none, none, some (.int ((1 : Int32)))], [], σ1) rfl ?_ (fun c134 => ?_) (fun c134 => ?_)
      · trivial
      · refine ev_blk 3 [] 10 ([some (.ref 57), some (.int (s0)), some (.int ((1 : Int32))), some (.int (la)), none, none, some (.int ((1 : Int32)))], [], σ1) rfl ?_ ?_
        · trivial
        refine ev_drop 6 ?_
        exact kN hN
      · exact absurd (show ¬ (1 : Int32) = 0 by decide) c134
    · exact absurd rfl c117
set_option maxRecDepth 100000 in
theorem m_fills_lp (σ : xSg) (a : sAt) (n : Nat) (T : sSt) (hok : aOk a n) : ∀ (m : Nat) (σ1 : xSg) (A B : List Nat) (o0 o1 : Bool) (la : Int32) (F : sFl), s_mu (A, B, o0, o1, decide (la = 0), F) ≤ m → atM σ1 = a → SR σ1 A B → MR σ1 F → (∀ x ∈ A, x < n) → (∀ x ∈ B, x < n) → (∀ q ∈ F.2, q.1 < n) → F.2.length + A.length + B.length ≤ 10 → xFm [74, 75, 76, 77, 78, 79] [23] σ σ1 → s_run a m (A, B, o0, o1, decide (la = 0), F) = T → xEv (.inl 3) M_X6_fills (fQ σ T) 10 ([some (.ref 57), some (.int (zi (o0 = false))), some (.int (zi (o1 = false))), some (.int (la)), none, none, none], [], σ1) := by
  have hn10 := hok.1
  intro m
  induction m with
  | zero =>
    intro σ1 A B o0 o1 la F hmu ha hR hF hA hB hFn hlen hfr hT
    subst ha
    refine ev_br 1 [] (¬ (zi (o0 = false)) = 0) 27 14 ([some (.ref 57), some (.int (zi (o0 = false))), some (.int (zi (o1 = false))), some (.int (la)), none, none, none], [], σ1) rfl ?_ (fun c11 => ?_) (fun c11 => ?_)
    · trivial
    · replace c11 := zi_1.mp c11
      refine ev_br 3 [] (¬ (zi (o1 = false)) = 0) 47 34 ([some (.ref 57), some (.int (zi (o0 = false))), some (.int (zi (o1 = false))), some (.int (la)), some (.int ((0 : Int32))), none, none], [], σ1) rfl ?_ (fun c31 => ?_) (fun c31 => ?_)
      · trivial
      · replace c31 := zi_1.mp c31
        refine ev_br 3 [] (¬ (0 : Int32) = 0) 65 55 ([some (.ref 57), some (.int (zi (o0 = false))), some (.int (zi (o1 = false))), some (.int (la)), some (.int ((0 : Int32))), some (.int ((0 : Int32))), none], [], σ1) rfl ?_ (fun c52 => ?_) (fun c52 => ?_)
        · trivial
        · exact absurd rfl c52
        · refine ev_br 1 [] (¬ (0 : Int32) = 0) 65 60 ([some (.ref 57), some (.int (zi (o0 = false))), some (.int (zi (o1 = false))), some (.int (la)), some (.int ((0 : Int32))), some (.int ((0 : Int32))), none], [], σ1) rfl ?_ (fun c57 => ?_) (fun c57 => ?_)
          · trivial
          · exact absurd rfl c57
          · refine ev_blk 2 [] 64 ([some (.ref 57), some (.int (zi (o0 = false))), some (.int (zi (o1 = false))), some (.int (la)), some (.int ((0 : Int32))), some (.int ((0 : Int32))), none], [.int ((σ1 57 23))], σ1) rfl ?_ ?_
            · trivial
            have hop0 : s_opn o0 A = [] := by rw [c11]; rfl
            have hop1 : s_opn o1 B = [] := by rw [c31]; rfl
            have hst : s_step (atM σ1) (A, B, o0, o1, decide (la = 0), F) = none := s_st_n (s_pk_n hop0 hop1)
            rw [s_run_none hst] at hT
            subst hT
            refine ev_iret rfl rfl rfl ⟨?_, hF, hR, hfr⟩
            rw [hF.2.2.1]
            rfl
      · replace c31 := zi_n.mp c31
        refine ev_br 4 [vp_in ((1 : Int32)) 2] (((σ1 75) 1) ≤ 0) 47 43 ([some (.ref 57), some (.int (zi (o0 = false))), some (.int (zi (o1 = false))), some (.int (la)), some (.int ((0 : Int32))), none, none], [], σ1) rfl ?_ (fun c40 => ?_) (fun c40 => ?_)
        · exact vp_in_nI (n := 1) (by decide) (by decide)
        · refine ev_br 3 [] (¬ (0 : Int32) = 0) 65 55 ([some (.ref 57), some (.int (zi (o0 = false))), some (.int (zi (o1 = false))), some (.int (la)), some (.int ((0 : Int32))), some (.int ((0 : Int32))), none], [], σ1) rfl ?_ (fun c52 => ?_) (fun c52 => ?_)
          · trivial
          · exact absurd rfl c52
          · refine ev_br 1 [] (¬ (0 : Int32) = 0) 65 60 ([some (.ref 57), some (.int (zi (o0 = false))), some (.int (zi (o1 = false))), some (.int (la)), some (.int ((0 : Int32))), some (.int ((0 : Int32))), none], [], σ1) rfl ?_ (fun c57 => ?_) (fun c57 => ?_)
            · trivial
            · exact absurd rfl c57
            · refine ev_blk 2 [] 64 ([some (.ref 57), some (.int (zi (o0 = false))), some (.int (zi (o1 = false))), some (.int (la)), some (.int ((0 : Int32))), some (.int ((0 : Int32))), none], [.int ((σ1 57 23))], σ1) rfl ?_ ?_
              · trivial
              have hop0 : s_opn o0 A = [] := by rw [c11]; rfl
              have hnil1 : B = [] := sA_nil c40 hR.2.2.2.2.2 hR.2.1
              have hop1 : s_opn o1 B = [] := by rw [hnil1]; unfold s_opn; split <;> rfl
              have hst : s_step (atM σ1) (A, B, o0, o1, decide (la = 0), F) = none := s_st_n (s_pk_n hop0 hop1)
              rw [s_run_none hst] at hT
              subst hT
              refine ev_iret rfl rfl rfl ⟨?_, hF, hR, hfr⟩
              rw [hF.2.2.1]
              rfl
        · refine ev_br 4 [] (¬ (0 : Int32) = 0) 65 55 ([some (.ref 57), some (.int (zi (o0 = false))), some (.int (zi (o1 = false))), some (.int (la)), some (.int ((0 : Int32))), some (.int ((1 : Int32))), none], [], σ1) rfl ?_ (fun c52 => ?_) (fun c52 => ?_)
          · trivial
          · exact absurd rfl c52
          · refine ev_br 1 [] (¬ (1 : Int32) = 0) 65 60 ([some (.ref 57), some (.int (zi (o0 = false))), some (.int (zi (o1 = false))), some (.int (la)), some (.int ((0 : Int32))), some (.int ((1 : Int32))), none], [], σ1) rfl ?_ (fun c57 => ?_) (fun c57 => ?_)
            · trivial
            · refine ev_br 1 [] ((0 : Int32) = 0) 91 70 ([some (.ref 57), some (.int (zi (o0 = false))), some (.int (zi (o1 = false))), some (.int (la)), some (.int ((0 : Int32))), some (.int ((1 : Int32))), none], [], σ1) rfl ?_ (fun c67 => ?_) (fun c67 => ?_)
              · trivial
              · refine ev_br 1 [] ((0 : Int32) = 0) 100 96 ([some (.ref 57), some (.int (zi (o0 = false))), some (.int (zi (o1 = false))), some (.int (la)), some (.int ((0 : Int32))), some (.int ((1 : Int32))), none], [], σ1) rfl ?_ (fun c93 => ?_) (fun c93 => ?_)
                · trivial
                · refine ev_blk 2 [] 103 ([some (.ref 57), some (.int (zi (o0 = false))), some (.int (zi (o1 = false))), some (.int (la)), some (.int ((0 : Int32))), some (.int ((1 : Int32))), some (.int ((1 : Int32)))], [], σ1) rfl ?_ ?_
                  · trivial
                  have hop0 : s_opn o0 A = [] := by rw [c11]; rfl
                  have ho1 : o1 = true := by cases h : o1 with | true => rfl | false => exact absurd h c31
                  obtain ⟨y, t1, rfl⟩ := sA_ne c40 hR.2.2.2.2.2
                  have hop1 : s_opn o1 (y :: t1) = y :: t1 := by rw [ho1]; rfl
                  simp [s_mu, ho1] at hmu
                · exact absurd rfl c93
              · exact absurd rfl c67
            · exact absurd (show ¬ (1 : Int32) = 0 by decide) c57
    · replace c11 := zi_n.mp c11
      refine ev_br 4 [vp_in ((0 : Int32)) 2] (((σ1 75) 0) ≤ 0) 27 23 ([some (.ref 57), some (.int (zi (o0 = false))), some (.int (zi (o1 = false))), some (.int (la)), none, none, none], [], σ1) rfl ?_ (fun c20 => ?_) (fun c20 => ?_)
      · exact vp_in_nI (n := 0) (by decide) (by decide)
      · refine ev_br 3 [] (¬ (zi (o1 = false)) = 0) 47 34 ([some (.ref 57), some (.int (zi (o0 = false))), some (.int (zi (o1 = false))), some (.int (la)), some (.int ((0 : Int32))), none, none], [], σ1) rfl ?_ (fun c31 => ?_) (fun c31 => ?_)
        · trivial
        · replace c31 := zi_1.mp c31
          refine ev_br 3 [] (¬ (0 : Int32) = 0) 65 55 ([some (.ref 57), some (.int (zi (o0 = false))), some (.int (zi (o1 = false))), some (.int (la)), some (.int ((0 : Int32))), some (.int ((0 : Int32))), none], [], σ1) rfl ?_ (fun c52 => ?_) (fun c52 => ?_)
          · trivial
          · exact absurd rfl c52
          · refine ev_br 1 [] (¬ (0 : Int32) = 0) 65 60 ([some (.ref 57), some (.int (zi (o0 = false))), some (.int (zi (o1 = false))), some (.int (la)), some (.int ((0 : Int32))), some (.int ((0 : Int32))), none], [], σ1) rfl ?_ (fun c57 => ?_) (fun c57 => ?_)
            · trivial
            · exact absurd rfl c57
            · refine ev_blk 2 [] 64 ([some (.ref 57), some (.int (zi (o0 = false))), some (.int (zi (o1 = false))), some (.int (la)), some (.int ((0 : Int32))), some (.int ((0 : Int32))), none], [.int ((σ1 57 23))], σ1) rfl ?_ ?_
              · trivial
              have hnil0 : A = [] := sA_nil c20 hR.2.2.2.2.1 hR.1
              have hop0 : s_opn o0 A = [] := by rw [hnil0]; unfold s_opn; split <;> rfl
              have hop1 : s_opn o1 B = [] := by rw [c31]; rfl
              have hst : s_step (atM σ1) (A, B, o0, o1, decide (la = 0), F) = none := s_st_n (s_pk_n hop0 hop1)
              rw [s_run_none hst] at hT
              subst hT
              refine ev_iret rfl rfl rfl ⟨?_, hF, hR, hfr⟩
              rw [hF.2.2.1]
              rfl
        · replace c31 := zi_n.mp c31
          refine ev_br 4 [vp_in ((1 : Int32)) 2] (((σ1 75) 1) ≤ 0) 47 43 ([some (.ref 57), some (.int (zi (o0 = false))), some (.int (zi (o1 = false))), some (.int (la)), some (.int ((0 : Int32))), none, none], [], σ1) rfl ?_ (fun c40 => ?_) (fun c40 => ?_)
          · exact vp_in_nI (n := 1) (by decide) (by decide)
          · refine ev_br 3 [] (¬ (0 : Int32) = 0) 65 55 ([some (.ref 57), some (.int (zi (o0 = false))), some (.int (zi (o1 = false))), some (.int (la)), some (.int ((0 : Int32))), some (.int ((0 : Int32))), none], [], σ1) rfl ?_ (fun c52 => ?_) (fun c52 => ?_)
            · trivial
            · exact absurd rfl c52
            · refine ev_br 1 [] (¬ (0 : Int32) = 0) 65 60 ([some (.ref 57), some (.int (zi (o0 = false))), some (.int (zi (o1 = false))), some (.int (la)), some (.int ((0 : Int32))), some (.int ((0 : Int32))), none], [], σ1) rfl ?_ (fun c57 => ?_) (fun c57 => ?_)
              · trivial
              · exact absurd rfl c57
              · refine ev_blk 2 [] 64 ([some (.ref 57), some (.int (zi (o0 = false))), some (.int (zi (o1 = false))), some (.int (la)), some (.int ((0 : Int32))), some (.int ((0 : Int32))), none], [.int ((σ1 57 23))], σ1) rfl ?_ ?_
                · trivial
                have hnil0 : A = [] := sA_nil c20 hR.2.2.2.2.1 hR.1
                have hop0 : s_opn o0 A = [] := by rw [hnil0]; unfold s_opn; split <;> rfl
                have hnil1 : B = [] := sA_nil c40 hR.2.2.2.2.2 hR.2.1
                have hop1 : s_opn o1 B = [] := by rw [hnil1]; unfold s_opn; split <;> rfl
                have hst : s_step (atM σ1) (A, B, o0, o1, decide (la = 0), F) = none := s_st_n (s_pk_n hop0 hop1)
                rw [s_run_none hst] at hT
                subst hT
                refine ev_iret rfl rfl rfl ⟨?_, hF, hR, hfr⟩
                rw [hF.2.2.1]
                rfl
          · refine ev_br 4 [] (¬ (0 : Int32) = 0) 65 55 ([some (.ref 57), some (.int (zi (o0 = false))), some (.int (zi (o1 = false))), some (.int (la)), some (.int ((0 : Int32))), some (.int ((1 : Int32))), none], [], σ1) rfl ?_ (fun c52 => ?_) (fun c52 => ?_)
            · trivial
            · exact absurd rfl c52
            · refine ev_br 1 [] (¬ (1 : Int32) = 0) 65 60 ([some (.ref 57), some (.int (zi (o0 = false))), some (.int (zi (o1 = false))), some (.int (la)), some (.int ((0 : Int32))), some (.int ((1 : Int32))), none], [], σ1) rfl ?_ (fun c57 => ?_) (fun c57 => ?_)
              · trivial
              · refine ev_br 1 [] ((0 : Int32) = 0) 91 70 ([some (.ref 57), some (.int (zi (o0 = false))), some (.int (zi (o1 = false))), some (.int (la)), some (.int ((0 : Int32))), some (.int ((1 : Int32))), none], [], σ1) rfl ?_ (fun c67 => ?_) (fun c67 => ?_)
                · trivial
                · refine ev_br 1 [] ((0 : Int32) = 0) 100 96 ([some (.ref 57), some (.int (zi (o0 = false))), some (.int (zi (o1 = false))), some (.int (la)), some (.int ((0 : Int32))), some (.int ((1 : Int32))), none], [], σ1) rfl ?_ (fun c93 => ?_) (fun c93 => ?_)
                  · trivial
                  · refine ev_blk 2 [] 103 ([some (.ref 57), some (.int (zi (o0 = false))), some (.int (zi (o1 = false))), some (.int (la)), some (.int ((0 : Int32))), some (.int ((1 : Int32))), some (.int ((1 : Int32)))], [], σ1) rfl ?_ ?_
                    · trivial
                    have hnil0 : A = [] := sA_nil c20 hR.2.2.2.2.1 hR.1
                    have hop0 : s_opn o0 A = [] := by rw [hnil0]; unfold s_opn; split <;> rfl
                    have ho1 : o1 = true := by cases h : o1 with | true => rfl | false => exact absurd h c31
                    obtain ⟨y, t1, rfl⟩ := sA_ne c40 hR.2.2.2.2.2
                    have hop1 : s_opn o1 (y :: t1) = y :: t1 := by rw [ho1]; rfl
                    simp [s_mu, ho1] at hmu
                  · exact absurd rfl c93
                · exact absurd rfl c67
              · exact absurd (show ¬ (1 : Int32) = 0 by decide) c57
      · refine ev_br 4 [] (¬ (zi (o1 = false)) = 0) 47 34 ([some (.ref 57), some (.int (zi (o0 = false))), some (.int (zi (o1 = false))), some (.int (la)), some (.int ((1 : Int32))), none, none], [], σ1) rfl ?_ (fun c31 => ?_) (fun c31 => ?_)
        · trivial
        · replace c31 := zi_1.mp c31
          refine ev_br 3 [] (¬ (1 : Int32) = 0) 65 55 ([some (.ref 57), some (.int (zi (o0 = false))), some (.int (zi (o1 = false))), some (.int (la)), some (.int ((1 : Int32))), some (.int ((0 : Int32))), none], [], σ1) rfl ?_ (fun c52 => ?_) (fun c52 => ?_)
          · trivial
          · refine ev_br 1 [] ((1 : Int32) = 0) 91 70 ([some (.ref 57), some (.int (zi (o0 = false))), some (.int (zi (o1 = false))), some (.int (la)), some (.int ((1 : Int32))), some (.int ((0 : Int32))), none], [], σ1) rfl ?_ (fun c67 => ?_) (fun c67 => ?_)
            · trivial
            · exact absurd c67 (by decide)
            · refine ev_br 1 [] ((0 : Int32) = 0) 91 75 ([some (.ref 57), some (.int (zi (o0 = false))), some (.int (zi (o1 = false))), some (.int (la)), some (.int ((1 : Int32))), some (.int ((0 : Int32))), none], [], σ1) rfl ?_ (fun c72 => ?_) (fun c72 => ?_)
              · trivial
              · refine ev_br 1 [] ((1 : Int32) = 0) 100 96 ([some (.ref 57), some (.int (zi (o0 = false))), some (.int (zi (o1 = false))), some (.int (la)), some (.int ((1 : Int32))), some (.int ((0 : Int32))), none], [], σ1) rfl ?_ (fun c93 => ?_) (fun c93 => ?_)
                · trivial
                · exact absurd c93 (by decide)
                · refine ev_blk 3 [] 103 ([some (.ref 57), some (.int (zi (o0 = false))), some (.int (zi (o1 = false))), some (.int (la)), some (.int ((1 : Int32))), some (.int ((0 : Int32))), some (.int ((0 : Int32)))], [], σ1) rfl ?_ ?_
                  · trivial
                  have ho0 : o0 = true := by cases h : o0 with | true => rfl | false => exact absurd h c11
                  obtain ⟨x, t0, rfl⟩ := sA_ne c20 hR.2.2.2.2.1
                  have hop0 : s_opn o0 (x :: t0) = x :: t0 := by rw [ho0]; rfl
                  have hop1 : s_opn o1 B = [] := by rw [c31]; rfl
                  simp [s_mu, ho0] at hmu
              · exact absurd rfl c72
          · exact absurd (show ¬ (1 : Int32) = 0 by decide) c52
        · replace c31 := zi_n.mp c31
          refine ev_br 4 [vp_in ((1 : Int32)) 2] (((σ1 75) 1) ≤ 0) 47 43 ([some (.ref 57), some (.int (zi (o0 = false))), some (.int (zi (o1 = false))), some (.int (la)), some (.int ((1 : Int32))), none, none], [], σ1) rfl ?_ (fun c40 => ?_) (fun c40 => ?_)
          · exact vp_in_nI (n := 1) (by decide) (by decide)
          · refine ev_br 3 [] (¬ (1 : Int32) = 0) 65 55 ([some (.ref 57), some (.int (zi (o0 = false))), some (.int (zi (o1 = false))), some (.int (la)), some (.int ((1 : Int32))), some (.int ((0 : Int32))), none], [], σ1) rfl ?_ (fun c52 => ?_) (fun c52 => ?_)
            · trivial
            · refine ev_br 1 [] ((1 : Int32) = 0) 91 70 ([some (.ref 57), some (.int (zi (o0 = false))), some (.int (zi (o1 = false))), some (.int (la)), some (.int ((1 : Int32))), some (.int ((0 : Int32))), none], [], σ1) rfl ?_ (fun c67 => ?_) (fun c67 => ?_)
              · trivial
              · exact absurd c67 (by decide)
              · refine ev_br 1 [] ((0 : Int32) = 0) 91 75 ([some (.ref 57), some (.int (zi (o0 = false))), some (.int (zi (o1 = false))), some (.int (la)), some (.int ((1 : Int32))), some (.int ((0 : Int32))), none], [], σ1) rfl ?_ (fun c72 => ?_) (fun c72 => ?_)
                · trivial
                · refine ev_br 1 [] ((1 : Int32) = 0) 100 96 ([some (.ref 57), some (.int (zi (o0 = false))), some (.int (zi (o1 = false))), some (.int (la)), some (.int ((1 : Int32))), some (.int ((0 : Int32))), none], [], σ1) rfl ?_ (fun c93 => ?_) (fun c93 => ?_)
                  · trivial
                  · exact absurd c93 (by decide)
                  · refine ev_blk 3 [] 103 ([some (.ref 57), some (.int (zi (o0 = false))), some (.int (zi (o1 = false))), some (.int (la)), some (.int ((1 : Int32))), some (.int ((0 : Int32))), some (.int ((0 : Int32)))], [], σ1) rfl ?_ ?_
                    · trivial
                    have ho0 : o0 = true := by cases h : o0 with | true => rfl | false => exact absurd h c11
                    obtain ⟨x, t0, rfl⟩ := sA_ne c20 hR.2.2.2.2.1
                    have hop0 : s_opn o0 (x :: t0) = x :: t0 := by rw [ho0]; rfl
                    have hnil1 : B = [] := sA_nil c40 hR.2.2.2.2.2 hR.2.1
                    have hop1 : s_opn o1 B = [] := by rw [hnil1]; unfold s_opn; split <;> rfl
                    simp [s_mu, ho0] at hmu
                · exact absurd rfl c72
            · exact absurd (show ¬ (1 : Int32) = 0 by decide) c52
          · refine ev_br 4 [] (¬ (1 : Int32) = 0) 65 55 ([some (.ref 57), some (.int (zi (o0 = false))), some (.int (zi (o1 = false))), some (.int (la)), some (.int ((1 : Int32))), some (.int ((1 : Int32))), none], [], σ1) rfl ?_ (fun c52 => ?_) (fun c52 => ?_)
            · trivial
            · refine ev_br 1 [] ((1 : Int32) = 0) 91 70 ([some (.ref 57), some (.int (zi (o0 = false))), some (.int (zi (o1 = false))), some (.int (la)), some (.int ((1 : Int32))), some (.int ((1 : Int32))), none], [], σ1) rfl ?_ (fun c67 => ?_) (fun c67 => ?_)
              · trivial
              · exact absurd c67 (by decide)
              · refine ev_br 1 [] ((1 : Int32) = 0) 91 75 ([some (.ref 57), some (.int (zi (o0 = false))), some (.int (zi (o1 = false))), some (.int (la)), some (.int ((1 : Int32))), some (.int ((1 : Int32))), none], [], σ1) rfl ?_ (fun c72 => ?_) (fun c72 => ?_)
                · trivial
                · exact absurd c72 (by decide)
                · refine ev_blk 2 [] 77 ([some (.ref 57), some (.int (zi (o0 = false))), some (.int (zi (o1 = false))), some (.int (la)), some (.int ((1 : Int32))), some (.int ((1 : Int32))), none], [.int (la), .ref 57], σ1) rfl ?_ ?_
                  · trivial
                  have ho0 : o0 = true := by cases h : o0 with | true => rfl | false => exact absurd h c11
                  obtain ⟨x, t0, rfl⟩ := sA_ne c20 hR.2.2.2.2.1
                  have hop0 : s_opn o0 (x :: t0) = x :: t0 := by rw [ho0]; rfl
                  have ho1 : o1 = true := by cases h : o1 with | true => rfl | false => exact absurd h c31
                  obtain ⟨y, t1, rfl⟩ := sA_ne c40 hR.2.2.2.2.2
                  have hop1 : s_opn o1 (y :: t1) = y :: t1 := by rw [ho1]; rfl
                  simp [s_mu, ho0] at hmu
            · exact absurd (show ¬ (1 : Int32) = 0 by decide) c52
  | succ m ih =>
    intro σ1 A B o0 o1 la F hmu ha hR hF hA hB hFn hlen hfr hT
    subst ha
    refine ev_br 1 [] (¬ (zi (o0 = false)) = 0) 27 14 ([some (.ref 57), some (.int (zi (o0 = false))), some (.int (zi (o1 = false))), some (.int (la)), none, none, none], [], σ1) rfl ?_ (fun c11 => ?_) (fun c11 => ?_)
    · trivial
    · replace c11 := zi_1.mp c11
      refine ev_br 3 [] (¬ (zi (o1 = false)) = 0) 47 34 ([some (.ref 57), some (.int (zi (o0 = false))), some (.int (zi (o1 = false))), some (.int (la)), some (.int ((0 : Int32))), none, none], [], σ1) rfl ?_ (fun c31 => ?_) (fun c31 => ?_)
      · trivial
      · replace c31 := zi_1.mp c31
        refine ev_br 3 [] (¬ (0 : Int32) = 0) 65 55 ([some (.ref 57), some (.int (zi (o0 = false))), some (.int (zi (o1 = false))), some (.int (la)), some (.int ((0 : Int32))), some (.int ((0 : Int32))), none], [], σ1) rfl ?_ (fun c52 => ?_) (fun c52 => ?_)
        · trivial
        · exact absurd rfl c52
        · refine ev_br 1 [] (¬ (0 : Int32) = 0) 65 60 ([some (.ref 57), some (.int (zi (o0 = false))), some (.int (zi (o1 = false))), some (.int (la)), some (.int ((0 : Int32))), some (.int ((0 : Int32))), none], [], σ1) rfl ?_ (fun c57 => ?_) (fun c57 => ?_)
          · trivial
          · exact absurd rfl c57
          · refine ev_blk 2 [] 64 ([some (.ref 57), some (.int (zi (o0 = false))), some (.int (zi (o1 = false))), some (.int (la)), some (.int ((0 : Int32))), some (.int ((0 : Int32))), none], [.int ((σ1 57 23))], σ1) rfl ?_ ?_
            · trivial
            have hop0 : s_opn o0 A = [] := by rw [c11]; rfl
            have hop1 : s_opn o1 B = [] := by rw [c31]; rfl
            have hst : s_step (atM σ1) (A, B, o0, o1, decide (la = 0), F) = none := s_st_n (s_pk_n hop0 hop1)
            rw [s_run_none hst] at hT
            subst hT
            refine ev_iret rfl rfl rfl ⟨?_, hF, hR, hfr⟩
            rw [hF.2.2.1]
            rfl
      · replace c31 := zi_n.mp c31
        refine ev_br 4 [vp_in ((1 : Int32)) 2] (((σ1 75) 1) ≤ 0) 47 43 ([some (.ref 57), some (.int (zi (o0 = false))), some (.int (zi (o1 = false))), some (.int (la)), some (.int ((0 : Int32))), none, none], [], σ1) rfl ?_ (fun c40 => ?_) (fun c40 => ?_)
        · exact vp_in_nI (n := 1) (by decide) (by decide)
        · refine ev_br 3 [] (¬ (0 : Int32) = 0) 65 55 ([some (.ref 57), some (.int (zi (o0 = false))), some (.int (zi (o1 = false))), some (.int (la)), some (.int ((0 : Int32))), some (.int ((0 : Int32))), none], [], σ1) rfl ?_ (fun c52 => ?_) (fun c52 => ?_)
          · trivial
          · exact absurd rfl c52
          · refine ev_br 1 [] (¬ (0 : Int32) = 0) 65 60 ([some (.ref 57), some (.int (zi (o0 = false))), some (.int (zi (o1 = false))), some (.int (la)), some (.int ((0 : Int32))), some (.int ((0 : Int32))), none], [], σ1) rfl ?_ (fun c57 => ?_) (fun c57 => ?_)
            · trivial
            · exact absurd rfl c57
            · refine ev_blk 2 [] 64 ([some (.ref 57), some (.int (zi (o0 = false))), some (.int (zi (o1 = false))), some (.int (la)), some (.int ((0 : Int32))), some (.int ((0 : Int32))), none], [.int ((σ1 57 23))], σ1) rfl ?_ ?_
              · trivial
              have hop0 : s_opn o0 A = [] := by rw [c11]; rfl
              have hnil1 : B = [] := sA_nil c40 hR.2.2.2.2.2 hR.2.1
              have hop1 : s_opn o1 B = [] := by rw [hnil1]; unfold s_opn; split <;> rfl
              have hst : s_step (atM σ1) (A, B, o0, o1, decide (la = 0), F) = none := s_st_n (s_pk_n hop0 hop1)
              rw [s_run_none hst] at hT
              subst hT
              refine ev_iret rfl rfl rfl ⟨?_, hF, hR, hfr⟩
              rw [hF.2.2.1]
              rfl
        · refine ev_br 4 [] (¬ (0 : Int32) = 0) 65 55 ([some (.ref 57), some (.int (zi (o0 = false))), some (.int (zi (o1 = false))), some (.int (la)), some (.int ((0 : Int32))), some (.int ((1 : Int32))), none], [], σ1) rfl ?_ (fun c52 => ?_) (fun c52 => ?_)
          · trivial
          · exact absurd rfl c52
          · refine ev_br 1 [] (¬ (1 : Int32) = 0) 65 60 ([some (.ref 57), some (.int (zi (o0 = false))), some (.int (zi (o1 = false))), some (.int (la)), some (.int ((0 : Int32))), some (.int ((1 : Int32))), none], [], σ1) rfl ?_ (fun c57 => ?_) (fun c57 => ?_)
            · trivial
            · refine ev_br 1 [] ((0 : Int32) = 0) 91 70 ([some (.ref 57), some (.int (zi (o0 = false))), some (.int (zi (o1 = false))), some (.int (la)), some (.int ((0 : Int32))), some (.int ((1 : Int32))), none], [], σ1) rfl ?_ (fun c67 => ?_) (fun c67 => ?_)
              · trivial
              · refine ev_br 1 [] ((0 : Int32) = 0) 100 96 ([some (.ref 57), some (.int (zi (o0 = false))), some (.int (zi (o1 = false))), some (.int (la)), some (.int ((0 : Int32))), some (.int ((1 : Int32))), none], [], σ1) rfl ?_ (fun c93 => ?_) (fun c93 => ?_)
                · trivial
                · refine ev_blk 2 [] 103 ([some (.ref 57), some (.int (zi (o0 = false))), some (.int (zi (o1 = false))), some (.int (la)), some (.int ((0 : Int32))), some (.int ((1 : Int32))), some (.int ((1 : Int32)))], [], σ1) rfl ?_ ?_
                  · trivial
                  have hop0 : s_opn o0 A = [] := by rw [c11]; rfl
                  have ho1 : o1 = true := by cases h : o1 with | true => rfl | false => exact absurd h c31
                  obtain ⟨y, t1, rfl⟩ := sA_ne c40 hR.2.2.2.2.2
                  have hop1 : s_opn o1 (y :: t1) = y :: t1 := by rw [ho1]; rfl
                  have hpk : s_pick (atM σ1) (decide (la = 0)) (s_opn o0 A) (s_opn o1 (y :: t1)) = some (y, true) := s_pk_1 hop0 hop1
                  refine ev_drop 4 ?_
                  refine ev_drop 5 ?_
                  refine m_fills_t1 _ σ1 (zi (o0 = false)) (zi (o1 = false)) la y n t1 A F hok (hB y List.mem_cons_self) hR hF (by simp only [List.length_cons] at hlen; omega) hFn (fun F2 σ2 h2 hM2 hR2 hf2 => ?_) (fun h2 => ?_)
                  · have hst : s_step (atM σ1) (A, (y :: t1), o0, o1, decide (la = 0), F) = some (A, t1, o0, o1, false, F2) := s_st_1 hpk h2
                    obtain ⟨r2, p2, hw2⟩ := s_in_w h2
                    have hmu2 := s_step_mu hst
                    refine ih σ2 A t1 o0 o1 _ F2 (show s_mu (A, t1, o0, o1, false, F2) ≤ m by omega) (atM_fr hf2 rfl) hR2 hM2 hA (fun z hz => hB z (List.mem_cons_of_mem _ hz)) (fun q hq => ?_) ?_ (hfr.tr hf2) ?_
                    · rw [hw2] at hq
                      rcases List.mem_append.mp hq with hq | hq
                      · exact hFn q hq
                      · rw [List.mem_singleton.mp hq]; exact (hB y List.mem_cons_self)
                    · rw [hw2]
                      simp only [List.length_append, List.length_cons, List.length_nil] at hlen ⊢
                      omega
                    · rw [← hT, s_run_some hst]
                      rfl
                  · have hst : s_step (atM σ1) (A, (y :: t1), o0, o1, decide (la = 0), F) = some (A, (y :: t1), o0, false, decide (la = 0), F) := s_st_1n hpk h2
                    have hmu2 := s_step_mu hst
                    have hz := ih σ1 A (y :: t1) o0 false la F (show s_mu (A, (y :: t1), o0, false, decide (la = 0), F) ≤ m by omega) rfl hR hF hA hB hFn hlen hfr (by rw [← hT, s_run_some hst])
                    exact hz
                · exact absurd rfl c93
              · exact absurd rfl c67
            · exact absurd (show ¬ (1 : Int32) = 0 by decide) c57
    · replace c11 := zi_n.mp c11
      refine ev_br 4 [vp_in ((0 : Int32)) 2] (((σ1 75) 0) ≤ 0) 27 23 ([some (.ref 57), some (.int (zi (o0 = false))), some (.int (zi (o1 = false))), some (.int (la)), none, none, none], [], σ1) rfl ?_ (fun c20 => ?_) (fun c20 => ?_)
      · exact vp_in_nI (n := 0) (by decide) (by decide)
      · refine ev_br 3 [] (¬ (zi (o1 = false)) = 0) 47 34 ([some (.ref 57), some (.int (zi (o0 = false))), some (.int (zi (o1 = false))), some (.int (la)), some (.int ((0 : Int32))), none, none], [], σ1) rfl ?_ (fun c31 => ?_) (fun c31 => ?_)
        · trivial
        · replace c31 := zi_1.mp c31
          refine ev_br 3 [] (¬ (0 : Int32) = 0) 65 55 ([some (.ref 57), some (.int (zi (o0 = false))), some (.int (zi (o1 = false))), some (.int (la)), some (.int ((0 : Int32))), some (.int ((0 : Int32))), none], [], σ1) rfl ?_ (fun c52 => ?_) (fun c52 => ?_)
          · trivial
          · exact absurd rfl c52
          · refine ev_br 1 [] (¬ (0 : Int32) = 0) 65 60 ([some (.ref 57), some (.int (zi (o0 = false))), some (.int (zi (o1 = false))), some (.int (la)), some (.int ((0 : Int32))), some (.int ((0 : Int32))), none], [], σ1) rfl ?_ (fun c57 => ?_) (fun c57 => ?_)
            · trivial
            · exact absurd rfl c57
            · refine ev_blk 2 [] 64 ([some (.ref 57), some (.int (zi (o0 = false))), some (.int (zi (o1 = false))), some (.int (la)), some (.int ((0 : Int32))), some (.int ((0 : Int32))), none], [.int ((σ1 57 23))], σ1) rfl ?_ ?_
              · trivial
              have hnil0 : A = [] := sA_nil c20 hR.2.2.2.2.1 hR.1
              have hop0 : s_opn o0 A = [] := by rw [hnil0]; unfold s_opn; split <;> rfl
              have hop1 : s_opn o1 B = [] := by rw [c31]; rfl
              have hst : s_step (atM σ1) (A, B, o0, o1, decide (la = 0), F) = none := s_st_n (s_pk_n hop0 hop1)
              rw [s_run_none hst] at hT
              subst hT
              refine ev_iret rfl rfl rfl ⟨?_, hF, hR, hfr⟩
              rw [hF.2.2.1]
              rfl
        · replace c31 := zi_n.mp c31
          refine ev_br 4 [vp_in ((1 : Int32)) 2] (((σ1 75) 1) ≤ 0) 47 43 ([some (.ref 57), some (.int (zi (o0 = false))), some (.int (zi (o1 = false))), some (.int (la)), some (.int ((0 : Int32))), none, none], [], σ1) rfl ?_ (fun c40 => ?_) (fun c40 => ?_)
          · exact vp_in_nI (n := 1) (by decide) (by decide)
          · refine ev_br 3 [] (¬ (0 : Int32) = 0) 65 55 ([some (.ref 57), some (.int (zi (o0 = false))), some (.int (zi (o1 = false))), some (.int (la)), some (.int ((0 : Int32))), some (.int ((0 : Int32))), none], [], σ1) rfl ?_ (fun c52 => ?_) (fun c52 => ?_)
            · trivial
            · exact absurd rfl c52
            · refine ev_br 1 [] (¬ (0 : Int32) = 0) 65 60 ([some (.ref 57), some (.int (zi (o0 = false))), some (.int (zi (o1 = false))), some (.int (la)), some (.int ((0 : Int32))), some (.int ((0 : Int32))), none], [], σ1) rfl ?_ (fun c57 => ?_) (fun c57 => ?_)
              · trivial
              · exact absurd rfl c57
              · refine ev_blk 2 [] 64 ([some (.ref 57), some (.int (zi (o0 = false))), some (.int (zi (o1 = false))), some (.int (la)), some (.int ((0 : Int32))), some (.int ((0 : Int32))), none], [.int ((σ1 57 23))], σ1) rfl ?_ ?_
                · trivial
                have hnil0 : A = [] := sA_nil c20 hR.2.2.2.2.1 hR.1
                have hop0 : s_opn o0 A = [] := by rw [hnil0]; unfold s_opn; split <;> rfl
                have hnil1 : B = [] := sA_nil c40 hR.2.2.2.2.2 hR.2.1
                have hop1 : s_opn o1 B = [] := by rw [hnil1]; unfold s_opn; split <;> rfl
                have hst : s_step (atM σ1) (A, B, o0, o1, decide (la = 0), F) = none := s_st_n (s_pk_n hop0 hop1)
                rw [s_run_none hst] at hT
                subst hT
                refine ev_iret rfl rfl rfl ⟨?_, hF, hR, hfr⟩
                rw [hF.2.2.1]
                rfl
          · refine ev_br 4 [] (¬ (0 : Int32) = 0) 65 55 ([some (.ref 57), some (.int (zi (o0 = false))), some (.int (zi (o1 = false))), some (.int (la)), some (.int ((0 : Int32))), some (.int ((1 : Int32))), none], [], σ1) rfl ?_ (fun c52 => ?_) (fun c52 => ?_)
            · trivial
            · exact absurd rfl c52
            · refine ev_br 1 [] (¬ (1 : Int32) = 0) 65 60 ([some (.ref 57), some (.int (zi (o0 = false))), some (.int (zi (o1 = false))), some (.int (la)), some (.int ((0 : Int32))), some (.int ((1 : Int32))), none], [], σ1) rfl ?_ (fun c57 => ?_) (fun c57 => ?_)
              · trivial
              · refine ev_br 1 [] ((0 : Int32) = 0) 91 70 ([some (.ref 57), some (.int (zi (o0 = false))), some (.int (zi (o1 = false))), some (.int (la)), some (.int ((0 : Int32))), some (.int ((1 : Int32))), none], [], σ1) rfl ?_ (fun c67 => ?_) (fun c67 => ?_)
                · trivial
                · refine ev_br 1 [] ((0 : Int32) = 0) 100 96 ([some (.ref 57), some (.int (zi (o0 = false))), some (.int (zi (o1 = false))), some (.int (la)), some (.int ((0 : Int32))), some (.int ((1 : Int32))), none], [], σ1) rfl ?_ (fun c93 => ?_) (fun c93 => ?_)
                  · trivial
                  · refine ev_blk 2 [] 103 ([some (.ref 57), some (.int (zi (o0 = false))), some (.int (zi (o1 = false))), some (.int (la)), some (.int ((0 : Int32))), some (.int ((1 : Int32))), some (.int ((1 : Int32)))], [], σ1) rfl ?_ ?_
                    · trivial
                    have hnil0 : A = [] := sA_nil c20 hR.2.2.2.2.1 hR.1
                    have hop0 : s_opn o0 A = [] := by rw [hnil0]; unfold s_opn; split <;> rfl
                    have ho1 : o1 = true := by cases h : o1 with | true => rfl | false => exact absurd h c31
                    obtain ⟨y, t1, rfl⟩ := sA_ne c40 hR.2.2.2.2.2
                    have hop1 : s_opn o1 (y :: t1) = y :: t1 := by rw [ho1]; rfl
                    have hpk : s_pick (atM σ1) (decide (la = 0)) (s_opn o0 A) (s_opn o1 (y :: t1)) = some (y, true) := s_pk_1 hop0 hop1
                    refine ev_drop 4 ?_
                    refine ev_drop 5 ?_
                    refine m_fills_t1 _ σ1 (zi (o0 = false)) (zi (o1 = false)) la y n t1 A F hok (hB y List.mem_cons_self) hR hF (by simp only [List.length_cons] at hlen; omega) hFn (fun F2 σ2 h2 hM2 hR2 hf2 => ?_) (fun h2 => ?_)
                    · have hst : s_step (atM σ1) (A, (y :: t1), o0, o1, decide (la = 0), F) = some (A, t1, o0, o1, false, F2) := s_st_1 hpk h2
                      obtain ⟨r2, p2, hw2⟩ := s_in_w h2
                      have hmu2 := s_step_mu hst
                      refine ih σ2 A t1 o0 o1 _ F2 (show s_mu (A, t1, o0, o1, false, F2) ≤ m by omega) (atM_fr hf2 rfl) hR2 hM2 hA (fun z hz => hB z (List.mem_cons_of_mem _ hz)) (fun q hq => ?_) ?_ (hfr.tr hf2) ?_
                      · rw [hw2] at hq
                        rcases List.mem_append.mp hq with hq | hq
                        · exact hFn q hq
                        · rw [List.mem_singleton.mp hq]; exact (hB y List.mem_cons_self)
                      · rw [hw2]
                        simp only [List.length_append, List.length_cons, List.length_nil] at hlen ⊢
                        omega
                      · rw [← hT, s_run_some hst]
                        rfl
                    · have hst : s_step (atM σ1) (A, (y :: t1), o0, o1, decide (la = 0), F) = some (A, (y :: t1), o0, false, decide (la = 0), F) := s_st_1n hpk h2
                      have hmu2 := s_step_mu hst
                      have hz := ih σ1 A (y :: t1) o0 false la F (show s_mu (A, (y :: t1), o0, false, decide (la = 0), F) ≤ m by omega) rfl hR hF hA hB hFn hlen hfr (by rw [← hT, s_run_some hst])
                      exact hz
                  · exact absurd rfl c93
                · exact absurd rfl c67
              · exact absurd (show ¬ (1 : Int32) = 0 by decide) c57
      · refine ev_br 4 [] (¬ (zi (o1 = false)) = 0) 47 34 ([some (.ref 57), some (.int (zi (o0 = false))), some (.int (zi (o1 = false))), some (.int (la)), some (.int ((1 : Int32))), none, none], [], σ1) rfl ?_ (fun c31 => ?_) (fun c31 => ?_)
        · trivial
        · replace c31 := zi_1.mp c31
          refine ev_br 3 [] (¬ (1 : Int32) = 0) 65 55 ([some (.ref 57), some (.int (zi (o0 = false))), some (.int (zi (o1 = false))), some (.int (la)), some (.int ((1 : Int32))), some (.int ((0 : Int32))), none], [], σ1) rfl ?_ (fun c52 => ?_) (fun c52 => ?_)
          · trivial
          · refine ev_br 1 [] ((1 : Int32) = 0) 91 70 ([some (.ref 57), some (.int (zi (o0 = false))), some (.int (zi (o1 = false))), some (.int (la)), some (.int ((1 : Int32))), some (.int ((0 : Int32))), none], [], σ1) rfl ?_ (fun c67 => ?_) (fun c67 => ?_)
            · trivial
            · exact absurd c67 (by decide)
            · refine ev_br 1 [] ((0 : Int32) = 0) 91 75 ([some (.ref 57), some (.int (zi (o0 = false))), some (.int (zi (o1 = false))), some (.int (la)), some (.int ((1 : Int32))), some (.int ((0 : Int32))), none], [], σ1) rfl ?_ (fun c72 => ?_) (fun c72 => ?_)
              · trivial
              · refine ev_br 1 [] ((1 : Int32) = 0) 100 96 ([some (.ref 57), some (.int (zi (o0 = false))), some (.int (zi (o1 = false))), some (.int (la)), some (.int ((1 : Int32))), some (.int ((0 : Int32))), none], [], σ1) rfl ?_ (fun c93 => ?_) (fun c93 => ?_)
                · trivial
                · exact absurd c93 (by decide)
                · refine ev_blk 3 [] 103 ([some (.ref 57), some (.int (zi (o0 = false))), some (.int (zi (o1 = false))), some (.int (la)), some (.int ((1 : Int32))), some (.int ((0 : Int32))), some (.int ((0 : Int32)))], [], σ1) rfl ?_ ?_
                  · trivial
                  have ho0 : o0 = true := by cases h : o0 with | true => rfl | false => exact absurd h c11
                  obtain ⟨x, t0, rfl⟩ := sA_ne c20 hR.2.2.2.2.1
                  have hop0 : s_opn o0 (x :: t0) = x :: t0 := by rw [ho0]; rfl
                  have hop1 : s_opn o1 B = [] := by rw [c31]; rfl
                  have hpk : s_pick (atM σ1) (decide (la = 0)) (s_opn o0 (x :: t0)) (s_opn o1 B) = some (x, false) := s_pk_0 hop0 hop1
                  refine ev_drop 4 ?_
                  refine ev_drop 5 ?_
                  refine m_fills_t0 _ σ1 (zi (o0 = false)) (zi (o1 = false)) la x n t0 B F hok (hA x List.mem_cons_self) hR hF (by simp only [List.length_cons] at hlen; omega) hFn (fun F2 σ2 h2 hM2 hR2 hf2 => ?_) (fun h2 => ?_)
                  · have hst : s_step (atM σ1) ((x :: t0), B, o0, o1, decide (la = 0), F) = some (t0, B, o0, o1, true, F2) := s_st_0 hpk h2
                    obtain ⟨r2, p2, hw2⟩ := s_in_w h2
                    have hmu2 := s_step_mu hst
                    refine ih σ2 t0 B o0 o1 _ F2 (show s_mu (t0, B, o0, o1, true, F2) ≤ m by omega) (atM_fr hf2 rfl) hR2 hM2 (fun z hz => hA z (List.mem_cons_of_mem _ hz)) hB (fun q hq => ?_) ?_ (hfr.tr hf2) ?_
                    · rw [hw2] at hq
                      rcases List.mem_append.mp hq with hq | hq
                      · exact hFn q hq
                      · rw [List.mem_singleton.mp hq]; exact (hA x List.mem_cons_self)
                    · rw [hw2]
                      simp only [List.length_append, List.length_cons, List.length_nil] at hlen ⊢
                      omega
                    · rw [← hT, s_run_some hst]
                      rfl
                  · have hst : s_step (atM σ1) ((x :: t0), B, o0, o1, decide (la = 0), F) = some ((x :: t0), B, false, o1, decide (la = 0), F) := s_st_0n hpk h2
                    have hmu2 := s_step_mu hst
                    have hz := ih σ1 (x :: t0) B false o1 la F (show s_mu ((x :: t0), B, false, o1, decide (la = 0), F) ≤ m by omega) rfl hR hF hA hB hFn hlen hfr (by rw [← hT, s_run_some hst])
                    exact hz
              · exact absurd rfl c72
          · exact absurd (show ¬ (1 : Int32) = 0 by decide) c52
        · replace c31 := zi_n.mp c31
          refine ev_br 4 [vp_in ((1 : Int32)) 2] (((σ1 75) 1) ≤ 0) 47 43 ([some (.ref 57), some (.int (zi (o0 = false))), some (.int (zi (o1 = false))), some (.int (la)), some (.int ((1 : Int32))), none, none], [], σ1) rfl ?_ (fun c40 => ?_) (fun c40 => ?_)
          · exact vp_in_nI (n := 1) (by decide) (by decide)
          · refine ev_br 3 [] (¬ (1 : Int32) = 0) 65 55 ([some (.ref 57), some (.int (zi (o0 = false))), some (.int (zi (o1 = false))), some (.int (la)), some (.int ((1 : Int32))), some (.int ((0 : Int32))), none], [], σ1) rfl ?_ (fun c52 => ?_) (fun c52 => ?_)
            · trivial
            · refine ev_br 1 [] ((1 : Int32) = 0) 91 70 ([some (.ref 57), some (.int (zi (o0 = false))), some (.int (zi (o1 = false))), some (.int (la)), some (.int ((1 : Int32))), some (.int ((0 : Int32))), none], [], σ1) rfl ?_ (fun c67 => ?_) (fun c67 => ?_)
              · trivial
              · exact absurd c67 (by decide)
              · refine ev_br 1 [] ((0 : Int32) = 0) 91 75 ([some (.ref 57), some (.int (zi (o0 = false))), some (.int (zi (o1 = false))), some (.int (la)), some (.int ((1 : Int32))), some (.int ((0 : Int32))), none], [], σ1) rfl ?_ (fun c72 => ?_) (fun c72 => ?_)
                · trivial
                · refine ev_br 1 [] ((1 : Int32) = 0) 100 96 ([some (.ref 57), some (.int (zi (o0 = false))), some (.int (zi (o1 = false))), some (.int (la)), some (.int ((1 : Int32))), some (.int ((0 : Int32))), none], [], σ1) rfl ?_ (fun c93 => ?_) (fun c93 => ?_)
                  · trivial
                  · exact absurd c93 (by decide)
                  · refine ev_blk 3 [] 103 ([some (.ref 57), some (.int (zi (o0 = false))), some (.int (zi (o1 = false))), some (.int (la)), some (.int ((1 : Int32))), some (.int ((0 : Int32))), some (.int ((0 : Int32)))], [], σ1) rfl ?_ ?_
                    · trivial
                    have ho0 : o0 = true := by cases h : o0 with | true => rfl | false => exact absurd h c11
                    obtain ⟨x, t0, rfl⟩ := sA_ne c20 hR.2.2.2.2.1
                    have hop0 : s_opn o0 (x :: t0) = x :: t0 := by rw [ho0]; rfl
                    have hnil1 : B = [] := sA_nil c40 hR.2.2.2.2.2 hR.2.1
                    have hop1 : s_opn o1 B = [] := by rw [hnil1]; unfold s_opn; split <;> rfl
                    have hpk : s_pick (atM σ1) (decide (la = 0)) (s_opn o0 (x :: t0)) (s_opn o1 B) = some (x, false) := s_pk_0 hop0 hop1
                    refine ev_drop 4 ?_
                    refine ev_drop 5 ?_
                    refine m_fills_t0 _ σ1 (zi (o0 = false)) (zi (o1 = false)) la x n t0 B F hok (hA x List.mem_cons_self) hR hF (by simp only [List.length_cons] at hlen; omega) hFn (fun F2 σ2 h2 hM2 hR2 hf2 => ?_) (fun h2 => ?_)
                    · have hst : s_step (atM σ1) ((x :: t0), B, o0, o1, decide (la = 0), F) = some (t0, B, o0, o1, true, F2) := s_st_0 hpk h2
                      obtain ⟨r2, p2, hw2⟩ := s_in_w h2
                      have hmu2 := s_step_mu hst
                      refine ih σ2 t0 B o0 o1 _ F2 (show s_mu (t0, B, o0, o1, true, F2) ≤ m by omega) (atM_fr hf2 rfl) hR2 hM2 (fun z hz => hA z (List.mem_cons_of_mem _ hz)) hB (fun q hq => ?_) ?_ (hfr.tr hf2) ?_
                      · rw [hw2] at hq
                        rcases List.mem_append.mp hq with hq | hq
                        · exact hFn q hq
                        · rw [List.mem_singleton.mp hq]; exact (hA x List.mem_cons_self)
                      · rw [hw2]
                        simp only [List.length_append, List.length_cons, List.length_nil] at hlen ⊢
                        omega
                      · rw [← hT, s_run_some hst]
                        rfl
                    · have hst : s_step (atM σ1) ((x :: t0), B, o0, o1, decide (la = 0), F) = some ((x :: t0), B, false, o1, decide (la = 0), F) := s_st_0n hpk h2
                      have hmu2 := s_step_mu hst
                      have hz := ih σ1 (x :: t0) B false o1 la F (show s_mu ((x :: t0), B, false, o1, decide (la = 0), F) ≤ m by omega) rfl hR hF hA hB hFn hlen hfr (by rw [← hT, s_run_some hst])
                      exact hz
                · exact absurd rfl c72
            · exact absurd (show ¬ (1 : Int32) = 0 by decide) c52
          · refine ev_br 4 [] (¬ (1 : Int32) = 0) 65 55 ([some (.ref 57), some (.int (zi (o0 = false))), some (.int (zi (o1 = false))), some (.int (la)), some (.int ((1 : Int32))), some (.int ((1 : Int32))), none], [], σ1) rfl ?_ (fun c52 => ?_) (fun c52 => ?_)
            · trivial
            · refine ev_br 1 [] ((1 : Int32) = 0) 91 70 ([some (.ref 57), some (.int (zi (o0 = false))), some (.int (zi (o1 = false))), some (.int (la)), some (.int ((1 : Int32))), some (.int ((1 : Int32))), none], [], σ1) rfl ?_ (fun c67 => ?_) (fun c67 => ?_)
              · trivial
              · exact absurd c67 (by decide)
              · refine ev_br 1 [] ((1 : Int32) = 0) 91 75 ([some (.ref 57), some (.int (zi (o0 = false))), some (.int (zi (o1 = false))), some (.int (la)), some (.int ((1 : Int32))), some (.int ((1 : Int32))), none], [], σ1) rfl ?_ (fun c72 => ?_) (fun c72 => ?_)
                · trivial
                · exact absurd c72 (by decide)
                · refine ev_blk 2 [] 77 ([some (.ref 57), some (.int (zi (o0 = false))), some (.int (zi (o1 = false))), some (.int (la)), some (.int ((1 : Int32))), some (.int ((1 : Int32))), none], [.int (la), .ref 57], σ1) rfl ?_ ?_
                  · trivial
                  have ho0 : o0 = true := by cases h : o0 with | true => rfl | false => exact absurd h c11
                  obtain ⟨x, t0, rfl⟩ := sA_ne c20 hR.2.2.2.2.1
                  have hop0 : s_opn o0 (x :: t0) = x :: t0 := by rw [ho0]; rfl
                  have ho1 : o1 = true := by cases h : o1 with | true => rfl | false => exact absurd h c31
                  obtain ⟨y, t1, rfl⟩ := sA_ne c40 hR.2.2.2.2.2
                  have hop1 : s_opn o1 (y :: t1) = y :: t1 := by rw [ho1]; rfl
                  refine ev_callV M_X6_isOther [.int (la)] [] 57 rfl rfl ln_X6_159 k_X6_isOther rfl rfl rfl rfl rfl rfl (m_isOther σ1 x y la (by have := hA x List.mem_cons_self; omega) (by have := hB y List.mem_cons_self; omega) (hR.2.2.1 0 x rfl) (hR.2.2.2.1 0 y rfl) hok.2.2.2.2.2.2) ?_
                  refine pu_k ?_
                  show xEv _ _ _ 80 ([some (.ref 57), some (.int (zi (o0 = false))), some (.int (zi (o1 = false))), some (.int (la)), some (.int ((1 : Int32))), some (.int ((1 : Int32))), none], [.int (zi (s_sec (atM σ1) x y (decide (la = 0)) = true))], σ1)
                  refine ev_br 0 [] ((zi (s_sec (atM σ1) x y (decide (la = 0)) = true)) = 0) 87 83 ([some (.ref 57), some (.int (zi (o0 = false))), some (.int (zi (o1 = false))), some (.int (la)), some (.int ((1 : Int32))), some (.int ((1 : Int32))), none], [], σ1) rfl ?_ (fun c80 => ?_) (fun c80 => ?_)
                  · trivial
                  · replace c80 := zi_0.mp c80
                    refine ev_blk 3 [] 103 ([some (.ref 57), some (.int (zi (o0 = false))), some (.int (zi (o1 = false))), some (.int (la)), some (.int ((1 : Int32))), some (.int ((1 : Int32))), some (.int ((0 : Int32)))], [], σ1) rfl ?_ ?_
                    · trivial
                    have hpk : s_pick (atM σ1) (decide (la = 0)) (s_opn o0 (x :: t0)) (s_opn o1 (y :: t1)) = some (x, false) := by rw [s_pk_2 hop0 hop1, if_neg c80]
                    refine ev_drop 4 ?_
                    refine ev_drop 5 ?_
                    refine m_fills_t0 _ σ1 (zi (o0 = false)) (zi (o1 = false)) la x n t0 (y :: t1) F hok (hA x List.mem_cons_self) hR hF (by simp only [List.length_cons] at hlen; omega) hFn (fun F2 σ2 h2 hM2 hR2 hf2 => ?_) (fun h2 => ?_)
                    · have hst : s_step (atM σ1) ((x :: t0), (y :: t1), o0, o1, decide (la = 0), F) = some (t0, (y :: t1), o0, o1, true, F2) := s_st_0 hpk h2
                      obtain ⟨r2, p2, hw2⟩ := s_in_w h2
                      have hmu2 := s_step_mu hst
                      refine ih σ2 t0 (y :: t1) o0 o1 _ F2 (show s_mu (t0, (y :: t1), o0, o1, true, F2) ≤ m by omega) (atM_fr hf2 rfl) hR2 hM2 (fun z hz => hA z (List.mem_cons_of_mem _ hz)) hB (fun q hq => ?_) ?_ (hfr.tr hf2) ?_
                      · rw [hw2] at hq
                        rcases List.mem_append.mp hq with hq | hq
                        · exact hFn q hq
                        · rw [List.mem_singleton.mp hq]; exact (hA x List.mem_cons_self)
                      · rw [hw2]
                        simp only [List.length_append, List.length_cons, List.length_nil] at hlen ⊢
                        omega
                      · rw [← hT, s_run_some hst]
                        rfl
                    · have hst : s_step (atM σ1) ((x :: t0), (y :: t1), o0, o1, decide (la = 0), F) = some ((x :: t0), (y :: t1), false, o1, decide (la = 0), F) := s_st_0n hpk h2
                      have hmu2 := s_step_mu hst
                      have hz := ih σ1 (x :: t0) (y :: t1) false o1 la F (show s_mu ((x :: t0), (y :: t1), false, o1, decide (la = 0), F) ≤ m by omega) rfl hR hF hA hB hFn hlen hfr (by rw [← hT, s_run_some hst])
                      exact hz
                  · replace c80 := zi_1.mp c80
                    refine ev_blk 3 [] 103 ([some (.ref 57), some (.int (zi (o0 = false))), some (.int (zi (o1 = false))), some (.int (la)), some (.int ((1 : Int32))), some (.int ((1 : Int32))), some (.int ((1 : Int32)))], [], σ1) rfl ?_ ?_
                    · trivial
                    have hpk : s_pick (atM σ1) (decide (la = 0)) (s_opn o0 (x :: t0)) (s_opn o1 (y :: t1)) = some (y, true) := by rw [s_pk_2 hop0 hop1, if_pos c80]
                    refine ev_drop 4 ?_
                    refine ev_drop 5 ?_
                    refine m_fills_t1 _ σ1 (zi (o0 = false)) (zi (o1 = false)) la y n t1 (x :: t0) F hok (hB y List.mem_cons_self) hR hF (by simp only [List.length_cons] at hlen; omega) hFn (fun F2 σ2 h2 hM2 hR2 hf2 => ?_) (fun h2 => ?_)
                    · have hst : s_step (atM σ1) ((x :: t0), (y :: t1), o0, o1, decide (la = 0), F) = some ((x :: t0), t1, o0, o1, false, F2) := s_st_1 hpk h2
                      obtain ⟨r2, p2, hw2⟩ := s_in_w h2
                      have hmu2 := s_step_mu hst
                      refine ih σ2 (x :: t0) t1 o0 o1 _ F2 (show s_mu ((x :: t0), t1, o0, o1, false, F2) ≤ m by omega) (atM_fr hf2 rfl) hR2 hM2 hA (fun z hz => hB z (List.mem_cons_of_mem _ hz)) (fun q hq => ?_) ?_ (hfr.tr hf2) ?_
                      · rw [hw2] at hq
                        rcases List.mem_append.mp hq with hq | hq
                        · exact hFn q hq
                        · rw [List.mem_singleton.mp hq]; exact (hB y List.mem_cons_self)
                      · rw [hw2]
                        simp only [List.length_append, List.length_cons, List.length_nil] at hlen ⊢
                        omega
                      · rw [← hT, s_run_some hst]
                        rfl
                    · have hst : s_step (atM σ1) ((x :: t0), (y :: t1), o0, o1, decide (la = 0), F) = some ((x :: t0), (y :: t1), o0, false, decide (la = 0), F) := s_st_1n hpk h2
                      have hmu2 := s_step_mu hst
                      have hz := ih σ1 (x :: t0) (y :: t1) o0 false la F (show s_mu ((x :: t0), (y :: t1), o0, false, decide (la = 0), F) ≤ m by omega) rfl hR hF hA hB hFn hlen hfr (by rw [← hT, s_run_some hst])
                      exact hz
            · exact absurd (show ¬ (1 : Int32) = 0 by decide) c52
set_option maxRecDepth 100000 in
theorem m_fills (σ : xSg) (n : Nat) (A B : List Nat) (hok : aOk (atM σ) n) (hz : ∀ i, i < 60 → σ 69 i = 0 ∨ σ 69 i = 1) (hR : SR σ A B) (hA : ∀ x ∈ A, x < n) (hB : ∀ x ∈ B, x < n) (hlen : A.length + B.length ≤ 10) : xCtr M_X6_fills [.ref 57] σ (fQ σ (s_fill (atM σ) (tkM σ) A B)) := by
  refine ctr_ev ok_X6_fills (by decide +kernel) rfl rfl rfl ?_
  show xEv (.inl 3) M_X6_fills _ 0 ([some (.ref 57), none, none, none, none, none, none], [], σ)
  refine ev_blk 1 [] 1 ([some (.ref 57), none, none, none, none, none, none], [.ref 57], σ) rfl ?_ ?_
  · trivial
  refine ev_callV M_X6_empties [] [] 57 rfl rfl ln_X6_156 k_X6_empties rfl rfl rfl rfl rfl rfl (m_empties σ hz) ?_
  rintro r σ1 ⟨rfl, hF, hfr⟩
  show xEv _ _ _ 4 ([some (.ref 57), none, none, none, none, none, none], [], σ1)
  refine ev_blk 6 [] 10 ([some (.ref 57), some (.int ((0 : Int32))), some (.int ((0 : Int32))), some (.int ((-1 : Int32))), none, none, none], [], σ1) rfl ?_ ?_
  · trivial
  have hR1 : SR σ1 A B := SR_fr hR (hfr.1 74 (by decide) (by decide)) (hfr.1 75 (by decide) (by decide))
  have h := m_fills_lp σ (atM σ) n (s_fill (atM σ) (tkM σ) A B) hok 12 σ1 A B true true (-1) (tkM σ, []) (by simp [s_mu]; omega) (atM_fr hfr rfl) hR1 hF hA hB (fun q hq => by simp at hq) (by simpa using hlen) (hfr.mono rfl rfl) rfl
  exact h
