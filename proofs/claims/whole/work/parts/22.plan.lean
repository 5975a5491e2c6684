theorem ev_post {d : Nat} {M : xM} {Q Q' : Option Value → xSg → Prop} {pc : Nat} {f : xF} (hq : ∀ r σ, Q r σ → Q' r σ) (k : xEv (.inl d) M Q pc f) : xEv (.inl d) M Q' pc f := by
  intro ok p l e s m args below meth c ad ca D X H locs ls hP hS hL T hT Xs
  obtain ⟨t, a1, o, b1, b2, ⟨⟨r, σ', e1, e2, e3⟩, e4⟩, b4⟩ := k ok p l e s m args below meth c ad ca D X H locs ls hP hS hL T hT Xs
  exact ⟨t, a1, o, b1, b2, ⟨⟨r, σ', e1, hq r σ' e2, e3⟩, e4⟩, b4⟩
/-- who waits in a lane -/
def laneL (n : Nat) (w : Int32) (La : Nat → Int32) (l : Int32) : List Nat := (List.range 10).filter (s_lnp n w La l)
theorem laneL_nodup (n : Nat) (w : Int32) (La : Nat → Int32) (l : Int32) : (laneL n w La l).Nodup := List.nodup_range.filter _
theorem laneL_apart {n : Nat} {w : Int32} {La : Nat → Int32} : ∀ x, x ∈ laneL n w La 0 → x ∈ laneL n w La 1 → False := fun x h1 h2 => by
  have a := (lnp_lt h1).2.2
  have b := (lnp_lt h2).2.2
  rw [a] at b
  exact absurd b (by decide)
theorem laneL_len {n : Nat} {w : Int32} {La : Nat → Int32} : (laneL n w La 0).length + (laneL n w La 1).length ≤ 10 := by
  have := fl_len (ord := List.range 10) (p := s_lnp n w La 0) (q := s_lnp n w La 1) (fun y h1 h2 => by simp only [s_lnp, Bool.and_eq_true, decide_eq_true_eq] at h1 h2; rw [h1.2] at h2; exact absurd h2.2 (by decide))
  simpa [laneL] using this
/-- the lanes of a number whose bits are those of another less those who went in -/
theorem laneL_nx {n : Nat} {w inm : Int32} {La : Nat → Int32} {l : Int32} {W : List Nat} (hn : n ≤ 10) (hb : ∀ j, j < 32 → bt inm j = decide (j ∈ W)) : laneL n (w &&& (inm ^^^ (-1 : Int32))) La l = (laneL n w La l).filter (fun x => !decide (x ∈ W)) := by
  unfold laneL
  rw [List.filter_filter]
  refine List.filter_congr (fun y hy => ?_)
  have hy10 := List.mem_range.mp hy
  unfold s_lnp
  rw [b_and, b_not (by omega), hb y (by omega)]
  cases decide (y < n) <;> cases bt w y <;> cases decide (La y = l) <;> simp
theorem rg01 {x : Int32} (h : rg x 0 1) : x = 0 ∨ x = 1 := by
  obtain ⟨j, rfl, -, hj⟩ := h
  rcases (by omega : j = 0 ∨ j = 1) with rfl | rfl
  · exact Or.inl rfl
  · exact Or.inr rfl
theorem laneL_or {a : sAt} {n j : Nat} {w : Int32} (hok : aOk a n) (hw : ∀ j, j < 32 → bt w j = true → j < n) (hj : j < 32) : (j ∈ laneL n w (aLa a) 0 ∨ j ∈ laneL n w (aLa a) 1) ↔ bt w j = true := by
  have hn := hok.1
  constructor
  · rintro (h | h)
    · exact (lnp_lt h).2.1
    · exact (lnp_lt h).2.1
  · intro h
    have hjn := hw j hj h
    have hm : j ∈ List.range 10 := List.mem_range.mpr (by omega)
    rcases rg01 (hok.2.1 j hjn).2.2.2.2.2 with q | q
    · exact Or.inl (List.mem_filter.mpr ⟨hm, by simp [s_lnp, hjn, h, q]⟩)
    · exact Or.inr (List.mem_filter.mpr ⟨hm, by simp [s_lnp, hjn, h, q]⟩)
/-- a filling of those that wait by a number's bits -/
def s_flw (a : sAt) (tk : sTk) (n : Nat) (w : Int32) : sSt := s_fill a tk (laneL n w (aLa a) 0) (laneL n w (aLa a) 1)
theorem s_flw_in {a : sAt} {tk : sTk} {n : Nat} {w : Int32} : ∀ x ∈ (s_went (s_flw a tk n w)).map Prod.fst, x < n ∧ bt w x = true := fun x hx => by
  rcases (s_fill_w (a := a) (tk := tk) (laneL_nodup n w (aLa a) 0) (laneL_nodup n w (aLa a) 1) laneL_apart).2.2.1 x hx with h | h
  · exact ⟨(lnp_lt h).1, (lnp_lt h).2.1⟩
  · exact ⟨(lnp_lt h).1, (lnp_lt h).2.1⟩
theorem s_flw_nx {a : sAt} {tk : sTk} {n : Nat} {w inm : Int32} (hn : n ≤ 10) (hb : ∀ j, j < 32 → bt inm j = decide (j ∈ (s_went (s_flw a tk n w)).map Prod.fst)) :
    laneL n (w &&& (inm ^^^ (-1 : Int32))) (aLa a) 0 = (s_flw a tk n w).1 ∧ laneL n (w &&& (inm ^^^ (-1 : Int32))) (aLa a) 1 = (s_flw a tk n w).2.1 := by
  obtain ⟨h1, h2, -, -⟩ := s_fill_w (a := a) (tk := tk) (laneL_nodup n w (aLa a) 0) (laneL_nodup n w (aLa a) 1) laneL_apart
  exact ⟨by rw [laneL_nx hn hb]; exact h1.symm, by rw [laneL_nx hn hb]; exact h2.symm⟩
theorem in_zero {inm : Int32} {W : List (Nat × Nat × Nat)} (hb : ∀ j, j < 32 → bt inm j = decide (j ∈ W.map Prod.fst)) (hl : ∀ x ∈ W.map Prod.fst, x < 32) : inm = 0 ↔ W = [] := by
  rw [b_zero]
  constructor
  · intro h
    cases W with
    | nil => rfl
    | cons q t =>
      have h32 := hl q.1 (by simp)
      have := h q.1 h32
      rw [hb q.1 h32] at this
      simp at this
  · intro h j hj
    rw [hb j hj, h]
    simp
def s_nxt (W : List (Nat × Nat × Nat)) (k what : Int32) : Int32 := if k < 0 ∨ what < 0 ∨ 2 < what then -2 else match W[k.toNatClampNeg]? with
  | none => -1
  | some q => if what = 0 then nI q.1 else if what = 1 then nI q.2.1 else nI q.2.2
def s_wat (a : sAt) (W : List (Nat × Nat × Nat)) : Int64 := match W with
  | [] => -9223372036854775808
  | _ :: _ => (s_spend a W).toInt64
def s_plan (a : sAt) (tk : sTk) : Nat → List Nat → List Nat → Nat → Int32 → Nat × Int32 × List Nat × List Nat
  | 0, A, B, c, w => (c, w, A, B)
  | m + 1, A, B, c, w => match s_went (s_fill a tk A B) with
    | [] => (c, w, A, B)
    | _ :: _ => s_plan a tk m (s_fill a tk A B).1 (s_fill a tk A B).2.1 (c + 1) (w + s_spend a (s_went (s_fill a tk A B)))
/-- the class's cells that are but scratch -/
def scC : List Nat := [26, 27, 28, 29, 30, 31, 32, 33, 34, 35, 36, 37, 38, 39, 40, 41, 42, 43, 44, 45, 46, 47]
theorem scC_f {σ σ1 : xSg} (h : xFr [26, 27, 28, 29, 30] σ σ1) : xFr scC σ σ1 := h.mono (fun c hc => by simp only [List.mem_cons, List.not_mem_nil, or_false] at hc; rcases hc with rfl | rfl | rfl | rfl | rfl <;> decide)
theorem c_spd {a : sAt} {σ1 : xSg} {F : sFl} (ha : atC σ1 = a) (hF : FR a σ1 26 27 28 29 30 F) : x_mx 0 (σ1 9 0 * σ1 9 1 * σ1 9 2 - σ1 26 6) = s_spend a F.2 := by
  rw [hF.2.2.2.1]
  subst ha
  rfl
set_option maxRecDepth 100000 in
theorem c_nextP (σ : xSg) (n : Nat) (hok : aOk (atC σ) n) (hn : σ 1 0 = nI n) (k wh : Int32) : xCtr M_X5_next [.ref 0, .int k, .int wh] σ (fun r σ1 => r = some (.int (s_nxt (s_went (s_flw (atC σ) (tkC σ) n (σ 1 1))) k wh)) ∧ xFr scC σ σ1) := by
  refine ctr_ev ok_X5_next (by decide +kernel) rfl rfl rfl ?_
  show xEv (.inl 5) M_X5_next _ 0 ([some (.ref 0), some (.int (k)), some (.int (wh))], [], σ)
  refine ev_br 1 [] (k < 0) 13 4 ([some (.ref 0), some (.int (k)), some (.int (wh))], [], σ) rfl ?_ (fun c1 => ?_) (fun c1 => ?_)
  · trivial
  · refine ev_blk 1 [] 15 ([some (.ref 0), some (.int (k)), some (.int (wh))], [.int ((-2 : Int32))], σ) rfl ?_ ?_
    · trivial
    exact ev_iret rfl rfl rfl ⟨by rw [s_nxt, if_pos (by simp_all)], xFr.rf⟩
  · refine ev_br 1 [] (wh < 0) 13 8 ([some (.ref 0), some (.int (k)), some (.int (wh))], [], σ) rfl ?_ (fun c5 => ?_) (fun c5 => ?_)
    · trivial
    · refine ev_blk 1 [] 15 ([some (.ref 0), some (.int (k)), some (.int (wh))], [.int ((-2 : Int32))], σ) rfl ?_ ?_
      · trivial
      exact ev_iret rfl rfl rfl ⟨by rw [s_nxt, if_pos (by simp_all)], xFr.rf⟩
    · refine ev_br 2 [] (wh ≤ (2 : Int32)) 16 13 ([some (.ref 0), some (.int (k)), some (.int (wh))], [], σ) rfl ?_ (fun c10 => ?_) (fun c10 => ?_)
      · trivial
      · refine ev_blk 6 [] 30 ([some (.ref 0), some (.int (k)), some (.int (wh))], [.ref 104, .int ((σ 1 1)), .ref 26], σ) rfl ?_ ?_
        · trivial
        refine ev_callV M_X2_byRule [.int ((σ 1 1)), .ref 104] [] 26 rfl rfl ln_X5_157 k_X2_byRule rfl rfl rfl rfl rfl rfl (c_byRule104 σ n (List.range 10) _ hok hn ord_by) ?_
        rintro r σ1 ⟨inm, rfl, hb, hF, hfr⟩
        have hT : s_fill (atC σ) (tkC σ) ((List.range 10).filter (s_lnp n (σ 1 1) (σ 7) 0)) ((List.range 10).filter (s_lnp n (σ 1 1) (σ 7) 1)) = (s_flw (atC σ) (tkC σ) n (σ 1 1)) := rfl
        rw [hT] at hb hF
        show xEv _ _ _ 33 ([some (.ref 0), some (.int (k)), some (.int (wh))], [.int (inm)], σ1)
        refine ev_br 5 [] (k < (σ1 26 5)) 47 45 ([some (.ref 0), some (.int (k)), some (.int (wh))], [], σ1) rfl ?_ (fun c42 => ?_) (fun c42 => ?_)
        · trivial
        · refine ev_br 1 [] (¬ wh = 0) 63 51 ([some (.ref 0), some (.int (k)), some (.int (wh))], [], σ1) rfl ?_ (fun c48 => ?_) (fun c48 => ?_)
          · trivial
          · refine ev_br 2 [] (¬ wh = (1 : Int32)) 80 68 ([some (.ref 0), some (.int (k)), some (.int (wh))], [], σ1) rfl ?_ (fun c65 => ?_) (fun c65 => ?_)
            · trivial
            · refine ev_blk 5 [vp_in (k) 10] 89 ([some (.ref 0), some (.int (k)), some (.int (wh))], [.int ((σ1 30) k.toNatClampNeg)], σ1) rfl ?_ ?_
              · rw [hF.2.2.1] at c42
                obtain ⟨kk, hkk, rfl⟩ := nI_of c1
                have hl10 := hF.1
                have hlt := (nI_ltI hkk (by omega)).mp c42
                exact vp_in_nI (by omega) (by decide)
              have hg : ¬ (k < 0 ∨ wh < 0 ∨ 2 < wh) := by rintro (q | q | q); exact c1 q; exact c5 q; exact (Int32.not_lt.mpr c10) q
              have h5 := hF.2.2.1
              obtain ⟨kk, hkk, rfl⟩ := nI_of c1
              have hkc : (nI kk).toNatClampNeg = kk := nI_clamp hkk
              have hl10 := hF.1
              rw [h5] at c42
              have hlt := (nI_ltI hkk (by omega)).mp c42
              obtain ⟨q, hq⟩ : ∃ q, (s_went (s_flw (atC σ) (tkC σ) n (σ 1 1)))[kk]? = some q := ⟨_, List.getElem?_eq_getElem hlt⟩
              obtain ⟨q1, q2, q3⟩ := hF.2.2.2.2.2 kk q.1 q.2.1 q.2.2 hq
              refine ev_iret rfl rfl rfl ⟨?_, scC_f hfr⟩
              rw [s_nxt, if_neg hg, hkc, hq, q3]
              simp [c48, c65]
            · refine ev_blk 6 [vp_in (k) 10] 89 ([some (.ref 0), some (.int (k)), some (.int (wh))], [.int ((σ1 29) k.toNatClampNeg)], σ1) rfl ?_ ?_
              · rw [hF.2.2.1] at c42
                obtain ⟨kk, hkk, rfl⟩ := nI_of c1
                have hl10 := hF.1
                have hlt := (nI_ltI hkk (by omega)).mp c42
                exact vp_in_nI (by omega) (by decide)
              have hg : ¬ (k < 0 ∨ wh < 0 ∨ 2 < wh) := by rintro (q | q | q); exact c1 q; exact c5 q; exact (Int32.not_lt.mpr c10) q
              have h5 := hF.2.2.1
              obtain ⟨kk, hkk, rfl⟩ := nI_of c1
              have hkc : (nI kk).toNatClampNeg = kk := nI_clamp hkk
              have hl10 := hF.1
              rw [h5] at c42
              have hlt := (nI_ltI hkk (by omega)).mp c42
              obtain ⟨q, hq⟩ : ∃ q, (s_went (s_flw (atC σ) (tkC σ) n (σ 1 1)))[kk]? = some q := ⟨_, List.getElem?_eq_getElem hlt⟩
              obtain ⟨q1, q2, q3⟩ := hF.2.2.2.2.2 kk q.1 q.2.1 q.2.2 hq
              refine ev_iret rfl rfl rfl ⟨?_, scC_f hfr⟩
              rw [s_nxt, if_neg hg, hkc, hq, q2]
              simp [c48, Classical.byContradiction c65]
          · refine ev_blk 6 [vp_in (k) 10] 89 ([some (.ref 0), some (.int (k)), some (.int (wh))], [.int ((σ1 28) k.toNatClampNeg)], σ1) rfl ?_ ?_
            · rw [hF.2.2.1] at c42
              obtain ⟨kk, hkk, rfl⟩ := nI_of c1
              have hl10 := hF.1
              have hlt := (nI_ltI hkk (by omega)).mp c42
              exact vp_in_nI (by omega) (by decide)
            have hg : ¬ (k < 0 ∨ wh < 0 ∨ 2 < wh) := by rintro (q | q | q); exact c1 q; exact c5 q; exact (Int32.not_lt.mpr c10) q
            have h5 := hF.2.2.1
            obtain ⟨kk, hkk, rfl⟩ := nI_of c1
            have hkc : (nI kk).toNatClampNeg = kk := nI_clamp hkk
            have hl10 := hF.1
            rw [h5] at c42
            have hlt := (nI_ltI hkk (by omega)).mp c42
            obtain ⟨q, hq⟩ : ∃ q, (s_went (s_flw (atC σ) (tkC σ) n (σ 1 1)))[kk]? = some q := ⟨_, List.getElem?_eq_getElem hlt⟩
            obtain ⟨q1, q2, q3⟩ := hF.2.2.2.2.2 kk q.1 q.2.1 q.2.2 hq
            refine ev_iret rfl rfl rfl ⟨?_, scC_f hfr⟩
            rw [s_nxt, if_neg hg, hkc, hq, q1]
            simp [Classical.byContradiction c48]
        · refine ev_blk 1 [] 46 ([some (.ref 0), some (.int (k)), some (.int (wh))], [.int ((-1 : Int32))], σ1) rfl ?_ ?_
          · trivial
          have hg : ¬ (k < 0 ∨ wh < 0 ∨ 2 < wh) := by rintro (q | q | q); exact c1 q; exact c5 q; exact (Int32.not_lt.mpr c10) q
          have h5 := hF.2.2.1
          obtain ⟨kk, hkk, rfl⟩ := nI_of c1
          have hkc : (nI kk).toNatClampNeg = kk := nI_clamp hkk
          have hl10 := hF.1
          rw [h5] at c42
          have hle : (s_went (s_flw (atC σ) (tkC σ) n (σ 1 1))).length ≤ kk := Nat.le_of_not_lt (fun q => c42 (nI_lt q (by omega)))
          exact ev_iret rfl rfl rfl ⟨by rw [s_nxt, if_neg hg, hkc, List.getElem?_eq_none hle], scC_f hfr⟩
      · refine ev_blk 1 [] 15 ([some (.ref 0), some (.int (k)), some (.int (wh))], [.int ((-2 : Int32))], σ) rfl ?_ ?_
        · trivial
        exact ev_iret rfl rfl rfl ⟨by rw [s_nxt, if_pos (by simp_all)], xFr.rf⟩
set_option maxRecDepth 100000 in
theorem c_waterP (σ : xSg) (n : Nat) (hok : aOk (atC σ) n) (hn : σ 1 0 = nI n) : xCtr M_X5_water [.ref 0] σ (fun r σ1 => r = some (.long (s_wat (atC σ) (s_went (s_flw (atC σ) (tkC σ) n (σ 1 1))))) ∧ xFr scC σ σ1) := by
  refine ctr_ev ok_X5_water (by decide +kernel) rfl rfl rfl ?_
  show xEv (.inl 5) M_X5_water _ 0 ([some (.ref 0)], [], σ)
  refine ev_blk 6 [] 14 ([some (.ref 0)], [.ref 104, .int ((σ 1 1)), .ref 26], σ) rfl ?_ ?_
  · trivial
  refine ev_callV M_X2_byRule [.int ((σ 1 1)), .ref 104] [] 26 rfl rfl ln_X5_157 k_X2_byRule rfl rfl rfl rfl rfl rfl (c_byRule104 σ n (List.range 10) _ hok hn ord_by) ?_
  rintro r σ1 ⟨inm, rfl, hb, hF, hfr⟩
  have hT : s_fill (atC σ) (tkC σ) ((List.range 10).filter (s_lnp n (σ 1 1) (σ 7) 0)) ((List.range 10).filter (s_lnp n (σ 1 1) (σ 7) 1)) = (s_flw (atC σ) (tkC σ) n (σ 1 1)) := rfl
  rw [hT] at hb hF
  show xEv _ _ _ 17 ([some (.ref 0)], [.int (inm)], σ1)
  refine ev_br 0 [] (¬ inm = 0) 26 20 ([some (.ref 0)], [], σ1) rfl ?_ (fun c17 => ?_) (fun c17 => ?_)
  · trivial
  · refine ev_blk 2 [] 30 ([some (.ref 0)], [.ref 26], σ1) rfl ?_ ?_
    · trivial
    refine ev_callV M_X2_spends [] [] 26 rfl rfl ln_X5_161 k_X2_spends rfl rfl rfl rfl rfl rfl (c_spends26 σ1) ?_
    refine pu_k ?_
    show xEv _ _ _ 33 ([some (.ref 0)], [.int (x_mx 0 (σ1 9 0 * σ1 9 1 * σ1 9 2 - σ1 26 6))], σ1)
    refine ev_blk 1 [] 34 ([some (.ref 0)], [.long ((x_mx 0 (σ1 9 0 * σ1 9 1 * σ1 9 2 - σ1 26 6)).toInt64)], σ1) rfl ?_ ?_
    · trivial
    have hz := in_zero hb (fun x hx => by have := (s_flw_in x hx).1; have := hok.1; omega)
    refine ev_lret rfl rfl ⟨?_, scC_f hfr⟩
    rw [c_spd (atC_fr hfr rfl) hF]
    cases hw : s_went (s_flw (atC σ) (tkC σ) n (σ 1 1)) with
    | nil => exact absurd (hz.mpr hw) c17
    | cons q t => rw [show (s_flw (atC σ) (tkC σ) n (σ 1 1)).2.2.2.2.2.2 = q :: t from hw]; rfl
  · refine ev_blk 2 [] 34 ([some (.ref 0)], [.long ((-9223372036854775808 : Int64))], σ1) rfl ?_ ?_
    · trivial
    have hz := in_zero hb (fun x hx => by have := (s_flw_in x hx).1; have := hok.1; omega)
    refine ev_lret rfl rfl ⟨?_, scC_f hfr⟩
    rw [hz.mp (Classical.byContradiction c17)]
    rfl
def planQ (σ : xSg) (wh : Int32) (V : Nat × Int32 × List Nat × List Nat) : Option Value → xSg → Prop := fun r σ2 => (∃ rI : Int32, r = some (.int rI) ∧ (wh = 0 → rI = nI V.1) ∧ (wh = 1 → ∀ j, j < 32 → bt rI j = decide (j ∈ V.2.2.1 ∨ j ∈ V.2.2.2)) ∧ (wh = 2 → rI = V.2.1)) ∧ xFr scC σ σ2
set_option maxRecDepth 100000 in
theorem c_plan_lp (σ : xSg) (n : Nat) (hok : aOk (atC σ) n) (hn : σ 1 0 = nI n) (wh : Int32) (V : Nat × Int32 × List Nat × List Nat) : ∀ (m k c : Nat) (w wa : Int32) (σ1 : xSg), k + m = 10 → xFr scC σ σ1 → (∀ j, j < 32 → bt w j = true → j < n) → (s_plan (atC σ) (tkC σ) m (laneL n w (σ 7) 0) (laneL n w (σ 7) 1) c wa) = V → xEv (.inl 5) M_X5_plan (planQ σ wh V) 28 ([some (.ref 0), some (.int (wh)), some (.int (w)), some (.int (nI c)), some (.int (wa)), some (.int (nI k)), none], [], σ1) := by
  have fin : ∀ (c : Nat) (w wa : Int32) (σ1 : xSg) (rI : Int32), xFr scC σ σ1 → (∀ j, j < 32 → bt w j = true → j < n) → V = (c, wa, laneL n w (σ 7) 0, laneL n w (σ 7) 1) → (wh = 0 → rI = nI c) → (wh = 1 → rI = w) → (wh = 2 → rI = wa) → (planQ σ wh V) (some (.int rI)) σ1 := by
    intro c w wa σ1 rI hfr hw hV h0 h1 h2
    subst hV
    refine ⟨⟨rI, rfl, h0, fun e j hj => ?_, h2⟩, hfr⟩
    rw [h1 e]
    have := laneL_or (a := atC σ) hok hw hj
    cases hb : bt w j with
    | true => exact (decide_eq_true (this.mpr hb)).symm
    | false => exact (decide_eq_false (fun q => by have := this.mp q; rw [hb] at this; cases this)).symm
  intro m
  induction m with
  | zero =>
    intro k c w wa σ1 hk hfr hw hV
    refine ev_br 2 [] ((10 : Int32) ≤ (nI k)) 84 35 ([some (.ref 0), some (.int (wh)), some (.int (w)), some (.int (nI c)), some (.int (wa)), some (.int (nI k)), none], [], σ1) rfl ?_ (fun c32 => ?_) (fun c32 => ?_)
    · trivial
    · refine ev_br 1 [] (¬ wh = 0) 92 88 ([some (.ref 0), some (.int (wh)), some (.int (w)), some (.int (nI c)), some (.int (wa)), some (.int (nI k)), none], [], σ1) rfl ?_ (fun c85 => ?_) (fun c85 => ?_)
      · trivial
      · refine ev_br 2 [] (¬ wh = (1 : Int32)) 101 97 ([some (.ref 0), some (.int (wh)), some (.int (w)), some (.int (nI c)), some (.int (wa)), some (.int (nI k)), none], [], σ1) rfl ?_ (fun c94 => ?_) (fun c94 => ?_)
        · trivial
        · refine ev_blk 1 [] 103 ([some (.ref 0), some (.int (wh)), some (.int (w)), some (.int (nI c)), some (.int (wa)), some (.int (nI k)), none], [.int (wa)], σ1) rfl ?_ ?_
          · trivial
          exact ev_iret rfl rfl rfl (fin c w wa σ1 _ hfr hw (by rw [← hV]; rfl) (fun q => absurd q c85) (fun q => absurd q c94) (fun _ => rfl))
        · refine ev_blk 2 [] 103 ([some (.ref 0), some (.int (wh)), some (.int (w)), some (.int (nI c)), some (.int (wa)), some (.int (nI k)), none], [.int (w)], σ1) rfl ?_ ?_
          · trivial
          exact ev_iret rfl rfl rfl (fin c w wa σ1 _ hfr hw (by rw [← hV]; rfl) (fun q => absurd q c85) (fun _ => rfl) (fun q => absurd (Classical.byContradiction c94) (by rw [q]; decide)))
      · refine ev_blk 2 [] 103 ([some (.ref 0), some (.int (wh)), some (.int (w)), some (.int (nI c)), some (.int (wa)), some (.int (nI k)), none], [.int (nI c)], σ1) rfl ?_ ?_
        · trivial
        exact ev_iret rfl rfl rfl (fin c w wa σ1 _ hfr hw (by rw [← hV]; rfl) (fun _ => rfl) (fun q => absurd (Classical.byContradiction c85) (by rw [q]; decide)) (fun q => absurd (Classical.byContradiction c85) (by rw [q]; decide)))
    · exact absurd (show (10 : Int32) ≤ nI k by rw [show k = 10 by omega]; decide) c32
  | succ m ih =>
    intro k c w wa σ1 hk hfr hw hV
    have hat := atC_fr hfr rfl
    have htk : tkC σ1 = tkC σ := by unfold tkC; rw [hfr 10 (by decide)]
    have hok1 : aOk (atC σ1) n := by rw [hat]; exact hok
    have hn1 : σ1 1 0 = nI n := (congrFun (hfr 1 (by decide)) 0).trans hn
    have h7 : σ1 7 = σ 7 := hfr 7 (by decide)
    refine ev_br 2 [] ((10 : Int32) ≤ (nI k)) 84 35 ([some (.ref 0), some (.int (wh)), some (.int (w)), some (.int (nI c)), some (.int (wa)), some (.int (nI k)), none], [], σ1) rfl ?_ (fun c32 => ?_) (fun c32 => ?_)
    · trivial
    · exact absurd c32 (nI_ge (b := 10) (by omega) (by decide))
    · refine ev_blk 4 [] 43 ([some (.ref 0), some (.int (wh)), some (.int (w)), some (.int (nI c)), some (.int (wa)), some (.int (nI k)), none], [.ref 104, .int (w), .ref 26], σ1) rfl ?_ ?_
      · trivial
      refine ev_callV M_X2_byRule [.int (w), .ref 104] [] 26 rfl rfl ln_X5_157 k_X2_byRule rfl rfl rfl rfl rfl rfl (c_byRule104 σ1 n (List.range 10) _ hok1 hn1 ord_by) ?_
      rintro r σ2 ⟨inm, rfl, hb, hF, hf2⟩
      have hT : s_fill (atC σ1) (tkC σ1) ((List.range 10).filter (s_lnp n w (σ1 7) 0)) ((List.range 10).filter (s_lnp n w (σ1 7) 1)) = s_flw (atC σ) (tkC σ) n w := by rw [hat, htk, h7]; rfl
      rw [hT] at hb hF
      rw [hat] at hF
      have hz := in_zero hb (fun x hx => by have := (s_flw_in x hx).1; have := hok.1; omega)
      show xEv _ _ _ 46 ([some (.ref 0), some (.int (wh)), some (.int (w)), some (.int (nI c)), some (.int (wa)), some (.int (nI k)), none], [.int (inm)], σ2)
      refine ev_br 2 [] (¬ inm = 0) 56 53 ([some (.ref 0), some (.int (wh)), some (.int (w)), some (.int (nI c)), some (.int (wa)), some (.int (nI k)), some (.int (inm))], [], σ2) rfl ?_ (fun c50 => ?_) (fun c50 => ?_)
      · trivial
      · refine ev_blk 10 [] 72 ([some (.ref 0), some (.int (wh)), some (.int (w &&& (inm ^^^ (-1 : Int32)))), some (.int ((nI c) + (1 : Int32))), some (.int (wa)), some (.int (nI k)), some (.int (inm))], [.ref 26, .int (wa)], σ2) rfl ?_ ?_
        · trivial
        refine ev_callV M_X2_spends [] [.int (wa)] 26 rfl rfl ln_X5_161 k_X2_spends rfl rfl rfl rfl rfl rfl (c_spends26 σ2) ?_
        refine pu_k ?_
        show xEv _ _ _ 75 ([some (.ref 0), some (.int (wh)), some (.int (w &&& (inm ^^^ (-1 : Int32)))), some (.int ((nI c) + (1 : Int32))), some (.int (wa)), some (.int (nI k)), some (.int (inm))], [.int (x_mx 0 (σ2 9 0 * σ2 9 1 * σ2 9 2 - σ2 26 6)), .int (wa)], σ2)
        refine ev_blk 4 [] 28 ([some (.ref 0), some (.int (wh)), some (.int (w &&& (inm ^^^ (-1 : Int32)))), some (.int ((nI c) + (1 : Int32))), some (.int (wa + (x_mx 0 (σ2 9 0 * σ2 9 1 * σ2 9 2 - σ2 26 6)))), some (.int ((nI k) + (1 : Int32))), some (.int (inm))], [], σ2) rfl ?_ ?_
        · trivial
        rw [nI_1, nI_1]
        refine ev_drop 6 ?_
        rw [c_spd ((atC_fr hf2 rfl).trans hat) hF]
        refine ih (k + 1) (c + 1) _ _ σ2 (by omega) (hfr.tr (scC_f hf2)) (fun j hj hbj => ?_) ?_
        · rw [b_and, Bool.and_eq_true] at hbj
          exact hw j hj hbj.1
        · obtain ⟨e0, e1⟩ := s_flw_nx (a := atC σ) (tk := tkC σ) hok.1 hb
          rw [show laneL n (w &&& (inm ^^^ (-1 : Int32))) (σ 7) 0 = _ from e0, show laneL n (w &&& (inm ^^^ (-1 : Int32))) (σ 7) 1 = _ from e1, ← hV]
          rw [s_plan]
          show _ = match s_went (s_flw (atC σ) (tkC σ) n w) with | [] => _ | _ :: _ => _
          cases hww : s_went (s_flw (atC σ) (tkC σ) n w) with
          | nil => exact absurd (hz.mpr hww) c50
          | cons q t => rw [show (s_flw (atC σ) (tkC σ) n w).2.2.2.2.2.2 = q :: t from hww]; show s_plan _ _ _ _ _ _ _ = s_plan _ _ _ _ _ _ (wa + s_spend (atC σ) (s_went (s_flw (atC σ) (tkC σ) n w))); rw [hww]; rfl
      · refine ev_br 2 [] (¬ wh = 0) 92 88 ([some (.ref 0), some (.int (wh)), some (.int (w)), some (.int (nI c)), some (.int (wa)), some (.int (nI k)), some (.int (inm))], [], σ2) rfl ?_ (fun c85 => ?_) (fun c85 => ?_)
        · trivial
        · refine ev_br 2 [] (¬ wh = (1 : Int32)) 101 97 ([some (.ref 0), some (.int (wh)), some (.int (w)), some (.int (nI c)), some (.int (wa)), some (.int (nI k)), some (.int (inm))], [], σ2) rfl ?_ (fun c94 => ?_) (fun c94 => ?_)
          · trivial
          · refine ev_blk 1 [] 103 ([some (.ref 0), some (.int (wh)), some (.int (w)), some (.int (nI c)), some (.int (wa)), some (.int (nI k)), some (.int (inm))], [.int (wa)], σ2) rfl ?_ ?_
            · trivial
            exact ev_iret rfl rfl rfl (fin c w wa _ _ (hfr.tr (scC_f hf2)) hw (by rw [← hV, s_plan, show s_went (s_fill (atC σ) (tkC σ) (laneL n w (σ 7) 0) (laneL n w (σ 7) 1)) = [] from hz.mp (Classical.byContradiction c50)]) (fun q => absurd q c85) (fun q => absurd q c94) (fun _ => rfl))
          · refine ev_blk 2 [] 103 ([some (.ref 0), some (.int (wh)), some (.int (w)), some (.int (nI c)), some (.int (wa)), some (.int (nI k)), some (.int (inm))], [.int (w)], σ2) rfl ?_ ?_
            · trivial
            exact ev_iret rfl rfl rfl (fin c w wa _ _ (hfr.tr (scC_f hf2)) hw (by rw [← hV, s_plan, show s_went (s_fill (atC σ) (tkC σ) (laneL n w (σ 7) 0) (laneL n w (σ 7) 1)) = [] from hz.mp (Classical.byContradiction c50)]) (fun q => absurd q c85) (fun _ => rfl) (fun q => absurd (Classical.byContradiction c94) (by rw [q]; decide)))
        · refine ev_blk 2 [] 103 ([some (.ref 0), some (.int (wh)), some (.int (w)), some (.int (nI c)), some (.int (wa)), some (.int (nI k)), some (.int (inm))], [.int (nI c)], σ2) rfl ?_ ?_
          · trivial
          exact ev_iret rfl rfl rfl (fin c w wa _ _ (hfr.tr (scC_f hf2)) hw (by rw [← hV, s_plan, show s_went (s_fill (atC σ) (tkC σ) (laneL n w (σ 7) 0) (laneL n w (σ 7) 1)) = [] from hz.mp (Classical.byContradiction c50)]) (fun _ => rfl) (fun q => absurd (Classical.byContradiction c85) (by rw [q]; decide)) (fun q => absurd (Classical.byContradiction c85) (by rw [q]; decide)))
set_option maxRecDepth 100000 in
theorem c_planP (σ : xSg) (n : Nat) (hok : aOk (atC σ) n) (hn : σ 1 0 = nI n) (hw : ∀ j, j < 32 → bt (σ 1 1) j = true → j < n) (wh : Int32) : xCtr M_X5_plan [.ref 0, .int wh] σ (fun r σ2 => (∃ rI : Int32, r = some (.int rI) ∧ ((wh < 0 ∨ 2 < wh) → rI = -2) ∧ (wh = 0 → rI = nI (s_plan (atC σ) (tkC σ) 10 (laneL n (σ 1 1) (σ 7) 0) (laneL n (σ 1 1) (σ 7) 1) 0 0).1) ∧ (wh = 1 → ∀ j, j < 32 → bt rI j = decide (j ∈ (s_plan (atC σ) (tkC σ) 10 (laneL n (σ 1 1) (σ 7) 0) (laneL n (σ 1 1) (σ 7) 1) 0 0).2.2.1 ∨ j ∈ (s_plan (atC σ) (tkC σ) 10 (laneL n (σ 1 1) (σ 7) 0) (laneL n (σ 1 1) (σ 7) 1) 0 0).2.2.2)) ∧ (wh = 2 → rI = (s_plan (atC σ) (tkC σ) 10 (laneL n (σ 1 1) (σ 7) 0) (laneL n (σ 1 1) (σ 7) 1) 0 0).2.1)) ∧ xFr scC σ σ2) := by
  refine ctr_ev ok_X5_plan (by decide +kernel) rfl rfl rfl ?_
  show xEv (.inl 5) M_X5_plan _ 0 ([some (.ref 0), some (.int (wh)), none, none, none, none, none], [], σ)
  refine ev_br 1 [] (wh < 0) 9 4 ([some (.ref 0), some (.int (wh)), none, none, none, none, none], [], σ) rfl ?_ (fun c1 => ?_) (fun c1 => ?_)
  · trivial
  · refine ev_blk 1 [] 11 ([some (.ref 0), some (.int (wh)), none, none, none, none, none], [.int ((-2 : Int32))], σ) rfl ?_ ?_
    · trivial
    exact ev_iret rfl rfl rfl ⟨⟨_, rfl, fun _ => rfl, fun q => absurd c1 (by rw [q]; decide), fun q => absurd c1 (by rw [q]; decide), fun q => absurd c1 (by rw [q]; decide)⟩, xFr.rf⟩
  · refine ev_br 2 [] (wh ≤ (2 : Int32)) 12 9 ([some (.ref 0), some (.int (wh)), none, none, none, none, none], [], σ) rfl ?_ (fun c6 => ?_) (fun c6 => ?_)
    · trivial
    · refine ev_blk 10 [] 28 ([some (.ref 0), some (.int (wh)), some (.int ((σ 1 1))), some (.int ((0 : Int32))), some (.int ((0 : Int32))), some (.int ((0 : Int32))), none], [], σ) rfl ?_ ?_
      · trivial
      refine ev_post ?_ (c_plan_lp σ n hok hn wh _ 10 0 0 (σ 1 1) 0 σ rfl xFr.rf hw rfl)
      rintro r σ2 ⟨⟨rI, h1, h2, h3, h4⟩, h5⟩
      exact ⟨⟨rI, h1, fun q => absurd q (by rintro (q | q); exact c1 q; exact (Int32.not_lt.mpr c6) q), h2, h3, h4⟩, h5⟩
    · refine ev_blk 1 [] 11 ([some (.ref 0), some (.int (wh)), none, none, none, none, none], [.int ((-2 : Int32))], σ) rfl ?_ ?_
      · trivial
      exact ev_iret rfl rfl rfl ⟨⟨_, rfl, fun _ => rfl, fun q => absurd c6 (by rw [q]; decide), fun q => absurd c6 (by rw [q]; decide), fun q => absurd c6 (by rw [q]; decide)⟩, xFr.rf⟩
