/-! as they come, event by event -/
abbrev aSt : Type := (Nat → Option Nat) × Nat × Option Nat
def a_gl (a : sAt) (bg : Nat → Option Nat) (t : Nat) (L : List Nat) : List Nat := s_srt (kI (aCo a)) (L.filter fun x => (bg x).isNone && decide (aCo a x ≤ nI t))
def a_fl (a : sAt) (tk : sTk) (A B : List Nat) (bg : Nat → Option Nat) (t : Nat) : sSt := s_fill a tk (a_gl a bg t A) (a_gl a bg t B)
def a_up (bg : Nat → Option Nat) (W : List (Nat × Nat × Nat)) (t : Nat) : Nat → Option Nat := fun x => if x ∈ W.map Prod.fst then some t else bg x
def s_mn : List Nat → Option Nat
  | [] => none
  | x :: l => match s_mn l with
    | none => some x
    | some y => some (if x < y then x else y)
theorem s_mn_none : ∀ {l : List Nat}, s_mn l = none → l = []
  | [], _ => rfl
  | x :: l, h => by
    unfold s_mn at h
    split at h <;> cases h
theorem s_mn_some : ∀ {l : List Nat} {m : Nat}, s_mn l = some m → m ∈ l ∧ ∀ x ∈ l, m ≤ x
  | [], m, h => by cases h
  | x :: l, m, h => by
    unfold s_mn at h
    split at h
    next e =>
      cases h
      rw [s_mn_none e]
      simp
    next y e =>
      obtain ⟨h1, h2⟩ := s_mn_some e
      cases h
      split
      next q =>
        refine ⟨List.mem_cons_self, fun z hz => ?_⟩
        rcases List.mem_cons.mp hz with rfl | hz
        · exact Nat.le_refl _
        · have := h2 z hz; omega
      next q =>
        refine ⟨List.mem_cons_of_mem _ h1, fun z hz => ?_⟩
        rcases List.mem_cons.mp hz with rfl | hz
        · omega
        · exact h2 z hz
theorem s_mn_of {l : List Nat} {m : Nat} (h1 : m ∈ l) (h2 : ∀ x ∈ l, m ≤ x) : s_mn l = some m := by
  cases h : s_mn l with
  | none => rw [s_mn_none h] at h1; simp at h1
  | some y =>
    obtain ⟨h3, h4⟩ := s_mn_some h
    have := h2 y h3
    have := h4 m h1
    congr 1
    omega
def a_lt (a : sAt) (bg : Nat → Option Nat) (t : Nat) (L : List Nat) : List Nat := L.filter fun x => (bg x).isNone && decide (nI t < aCo a x)
def a_nc (a : sAt) (bg : Nat → Option Nat) (t : Nat) (L : List Nat) : Option Nat := s_mn ((a_lt a bg t L).map fun x => (aCo a x).toNatClampNeg)
def a_mi (a : sAt) : Nat := (aS a 3).toNatClampNeg
def s_ar (a : sAt) (tk : sTk) (A B : List Nat) : Nat → Nat → aSt → aSt
  | 0, _, s => s
  | m + 1, t, s => match s_went (a_fl a tk A B s.1 t) with
    | [] => match a_nc a s.1 t (A ++ B) with
      | none => s
      | some t' => s_ar a tk A B m t' s
    | q :: l => s_ar a tk A B m (t + a_mi a) (a_up s.1 (q :: l) t, s.2.1 + 1, some t)
def a_wt : Option Nat → Int32 → Int32
  | none, _ => -1
  | some t, c => nI t - c
def cR (σ : xSg) (Co : Nat → Int32) (s : aSt) : Prop := (∀ j, j < 10 → σ 33 j = a_wt (s.1 j) (Co j)) ∧ σ 31 4 = nI s.2.1 ∧ σ 31 5 = s_oi s.2.2
theorem a_gl_c {a : sAt} {n : Nat} {w c : Int32} {l : Int32} {bg : Nat → Option Nat} {t : Nat} (hc : ∀ j, j < 32 → bt c j = (decide (j < 10) && decide (aCo a j ≤ nI t) && (bt w j && (bg j).isNone))) :
    (s_srt (kI (aCo a)) (List.range 10)).filter (s_lnp n c (aLa a) l) = a_gl a bg t (laneL n w (aLa a) l) := by
  rw [s_srt_fl]
  unfold a_gl laneL
  rw [List.filter_filter]
  congr 1
  refine List.filter_congr (fun y hy => ?_)
  have hy10 := List.mem_range.mp hy
  unfold s_lnp
  rw [hc y (by omega)]
  simp only [hy10, decide_true, Bool.true_and]
  cases decide (y < n) <;> cases decide (aCo a y ≤ nI t) <;> cases bt w y <;> cases (bg y).isNone <;> cases decide (aLa a y = l) <;> rfl
theorem ord_srt {f : Nat → Int32} {k : Nat → Int} (h : rowL f 0 (s_srt k (List.range 10))) : ordOk (s_srt k (List.range 10)) f := by
  have hl : (s_srt k (List.range 10)).length = 10 := by rw [s_srt_len, List.length_range]
  refine ⟨hl, s_srt_nodup List.nodup_range, fun i hi => ?_⟩
  obtain ⟨x, hx⟩ : ∃ x, (s_srt k (List.range 10))[i]? = some x := ⟨_, List.getElem?_eq_getElem (by omega)⟩
  have := h i x hx
  rw [Nat.zero_add] at this
  exact ⟨x, hx, List.mem_range.mp (s_srt_mem.mp (List.mem_of_getElem? hx)), this⟩
theorem ncI_nc {a : sAt} {n : Nat} {w w1 r : Int32} {bg : Nat → Option Nat} {t : Nat} (hok : aOk a n) (hw : ∀ j, j < 32 → bt w j = true → j < n) (hb : ∀ j, j < 32 → bt w1 j = (bt w j && (bg j).isNone)) (h : ncI (aCo a) (nI t) w1 10 r) :
    (r = -1 ∧ a_nc a bg t (laneL n w (aLa a) 0 ++ laneL n w (aLa a) 1) = none) ∨ (∃ t', r = nI t' ∧ t' ≤ 999 ∧ a_nc a bg t (laneL n w (aLa a) 0 ++ laneL n w (aLa a) 1) = some t') := by
  have hn := hok.1
  have mem : ∀ x, x ∈ a_lt a bg t (laneL n w (aLa a) 0 ++ laneL n w (aLa a) 1) ↔ x < 32 ∧ bt w1 x = true ∧ nI t < aCo a x := by
    intro x
    unfold a_lt
    rw [List.mem_filter, List.mem_append]
    constructor
    · rintro ⟨h1, h2⟩
      have hx : x < 32 := by
        rcases h1 with h1 | h1
        · have := (lnp_lt h1).1; omega
        · have := (lnp_lt h1).1; omega
      have h3 := (laneL_or hok hw hx).mp h1
      simp only [Bool.and_eq_true, decide_eq_true_eq] at h2
      exact ⟨hx, by rw [hb x hx, h3, h2.1]; rfl, h2.2⟩
    · rintro ⟨hx, h1, h2⟩
      rw [hb x hx, Bool.and_eq_true] at h1
      refine ⟨(laneL_or hok hw hx).mpr h1.1, ?_⟩
      simp only [Bool.and_eq_true, decide_eq_true_eq]
      exact ⟨h1.2, h2⟩
  rcases h with ⟨h1, h2⟩ | ⟨j, h1, h2, h3, h4, h5⟩
  · refine Or.inl ⟨h1, ?_⟩
    unfold a_nc
    have : a_lt a bg t (laneL n w (aLa a) 0 ++ laneL n w (aLa a) 1) = [] := by
      rw [List.eq_nil_iff_forall_not_mem]
      intro x hx
      obtain ⟨m1, m2, m3⟩ := (mem x).mp hx
      have hbx : bt w x = true := by
        rw [hb x m1, Bool.and_eq_true] at m2
        exact m2.1
      have := hw x m1 hbx
      exact h2 x (by omega) m2 m3
    rw [this]
    rfl
  · have hbj : bt w j = true := by
      rw [hb j (by omega), Bool.and_eq_true] at h2
      exact h2.1
    obtain ⟨c, hc, -, hc9⟩ := (hok.2.1 j (hw j (by omega) hbj)).2.2.2.2.1
    refine Or.inr ⟨c, by rw [h3, hc], hc9, ?_⟩
    unfold a_nc
    refine s_mn_of (List.mem_map.mpr ⟨j, (mem j).mpr ⟨by omega, h2, h4⟩, by rw [hc, nI_clamp (by omega)]⟩) (fun x hx => ?_)
    obtain ⟨y, hy, rfl⟩ := List.mem_map.mp hx
    obtain ⟨m1, m2, m3⟩ := (mem y).mp hy
    have hby : bt w y = true := by
      rw [hb y m1, Bool.and_eq_true] at m2
      exact m2.1
    have hyn := hw y m1 hby
    obtain ⟨d, hd, -, hd9⟩ := (hok.2.1 y hyn).2.2.2.2.1
    have := h5 y (by omega) m2 m3
    rw [hc, hd] at this
    rw [hd, nI_clamp (by omega)]
    exact Nat.le_of_not_lt (fun q => this (nI_lt q (by omega)))
theorem a_mi_ok {a : sAt} {n : Nat} (h : aOk a n) : aS a 3 = nI (a_mi a) ∧ 1 ≤ a_mi a ∧ a_mi a ≤ 60 := by
  obtain ⟨j, hj, h1, h2⟩ := h.2.2.2.2.2.1
  unfold a_mi
  rw [hj, nI_clamp (by omega)]
  exact ⟨rfl, h1, h2⟩
theorem a_gl_in {a : sAt} {bg : Nat → Option Nat} {t : Nat} {L : List Nat} {x : Nat} (h : x ∈ a_gl a bg t L) : x ∈ L ∧ (bg x).isNone = true ∧ aCo a x ≤ nI t := by
  have := s_srt_mem.mp h
  rw [List.mem_filter, Bool.and_eq_true, decide_eq_true_eq] at this
  exact this
theorem a_fl_in {a : sAt} {tk : sTk} {n : Nat} {w : Int32} {bg : Nat → Option Nat} {t : Nat} : ∀ x ∈ (s_went (a_fl a tk (laneL n w (aLa a) 0) (laneL n w (aLa a) 1) bg t)).map Prod.fst, x < n := by
  intro x hx
  rcases (s_fill_w (a := a) (tk := tk) (A := a_gl a bg t (laneL n w (aLa a) 0)) (B := a_gl a bg t (laneL n w (aLa a) 1)) (s_srt_nodup ((laneL_nodup _ _ _ _).filter _)) (s_srt_nodup ((laneL_nodup _ _ _ _).filter _)) (fun y h1 h2 => laneL_apart y (a_gl_in h1).1 (a_gl_in h2).1)).2.2.1 x hx with h | h
  · exact (lnp_lt (a_gl_in h).1).1
  · exact (lnp_lt (a_gl_in h).1).1
set_option maxRecDepth 100000 in
theorem c_arun_e (σ : xSg) (V : aSt) (st : Nat) (w1 : Int32) (σ1 : xSg) (hR : cR σ1 (σ 6) V) (hfr : xFr scC σ σ1) : xEv (.inl 5) M_X0_run (fun r σ2 => r = none ∧ cR σ2 (σ 6) V ∧ xFr scC σ σ2) 34 ([some (.ref 31), some (.int (w1)), some (.int ((-1 : Int32))), some (.int (nI st)), none], [], σ1) := by
  refine ev_br 2 [] ((20 : Int32) < (nI st)) 111 40 ([some (.ref 31), some (.int (w1)), some (.int ((-1 : Int32))), some (.int (nI st)), none], [], σ1) rfl ?_ (fun c37 => ?_) (fun c37 => ?_)
  · trivial
  · exact ev_vret rfl rfl ⟨rfl, hR, hfr⟩
  · refine ev_br 2 [] ((-1 : Int32) = (-1 : Int32)) 111 45 ([some (.ref 31), some (.int (w1)), some (.int ((-1 : Int32))), some (.int (nI st)), none], [], σ1) rfl ?_ (fun c42 => ?_) (fun c42 => ?_)
    · trivial
    · exact ev_vret rfl rfl ⟨rfl, hR, hfr⟩
    · exact absurd (by decide) c42
set_option maxRecDepth 100000 in
theorem c_arun_lp (σ : xSg) (n : Nat) (hok : aOk (atC σ) n) (hn : σ 1 0 = nI n) (hw : ∀ j, j < 32 → bt (σ 1 1) j = true → j < n) (V : aSt) : ∀ (m st t : Nat) (w1 : Int32) (s : aSt) (σ1 : xSg), st + m = 21 → t ≤ 1000 + 60 * st → (∀ j, j < 32 → bt w1 j = (bt (σ 1 1) j && (s.1 j).isNone)) → cR σ1 (σ 6) s → rowL (σ1 32) 0 (s_srt (kI (σ 6)) (List.range 10)) → xFr scC σ σ1 → s_ar (atC σ) (tkC σ) (laneL n (σ 1 1) (σ 7) 0) (laneL n (σ 1 1) (σ 7) 1) m t s = V → xEv (.inl 5) M_X0_run (fun r σ2 => r = none ∧ cR σ2 (σ 6) V ∧ xFr scC σ σ2) 34 ([some (.ref 31), some (.int (w1)), some (.int (nI t)), some (.int (nI st)), none], [], σ1) := by
  intro m
  induction m with
  | zero =>
    intro st t w1 s σ1 hst ht hb hR hO hfr hV
    refine ev_br 2 [] ((20 : Int32) < (nI st)) 111 40 ([some (.ref 31), some (.int (w1)), some (.int (nI t)), some (.int (nI st)), none], [], σ1) rfl ?_ (fun c37 => ?_) (fun c37 => ?_)
    · trivial
    · exact ev_vret rfl rfl ⟨rfl, by rw [← hV]; exact hR, hfr⟩
    · exact absurd (show (20 : Int32) < nI st from nI_lt (a := 20) (by omega) (by omega)) c37
  | succ m ih =>
    intro st t w1 s σ1 hst ht hb hR hO hfr hV
    have hat := atC_fr hfr rfl
    have htk : tkC σ1 = tkC σ := by unfold tkC; rw [hfr 10 (by decide)]
    have hok1 : aOk (atC σ1) n := by rw [hat]; exact hok
    have hn1 : σ1 1 0 = nI n := (congrFun (hfr 1 (by decide)) 0).trans hn
    have h7 : σ1 7 = σ 7 := hfr 7 (by decide)
    have h6 : σ1 6 = σ 6 := hfr 6 (by decide)
    refine ev_br 2 [] ((20 : Int32) < (nI st)) 111 40 ([some (.ref 31), some (.int (w1)), some (.int (nI t)), some (.int (nI st)), none], [], σ1) rfl ?_ (fun c37 => ?_) (fun c37 => ?_)
    · trivial
    · exact absurd c37 (nI_nlt (a := 20) (by omega) (by omega))
    · refine ev_br 2 [] ((nI t) = (-1 : Int32)) 111 45 ([some (.ref 31), some (.int (w1)), some (.int (nI t)), some (.int (nI st)), none], [], σ1) rfl ?_ (fun c42 => ?_) (fun c42 => ?_)
      · trivial
      · exact absurd c42 (nI_m1 (by omega))
      · refine ev_blk 5 [] 52 ([some (.ref 31), some (.int (w1)), some (.int (nI t)), some (.int (nI st)), none], [.int (w1), .int (nI t), .ref 31, .ref 26], σ1) rfl ?_ ?_
        · trivial
        refine ev_callV M_X0_comeBy [.int (nI t), .int (w1)] [.ref 26] 31 rfl rfl ln_X0_47 k_X0_comeBy rfl rfl rfl rfl rfl rfl (c_comeBy σ1 (nI t) w1) ?_
        rintro r σ1b ⟨⟨cb, rfl, hcb⟩, e1⟩
        rw [e1]
        show xEv _ _ _ 55 ([some (.ref 31), some (.int (w1)), some (.int (nI t)), some (.int (nI st)), none], [.int (cb), .ref 26], σ1)
        refine ev_blk 2 [] 59 ([some (.ref 31), some (.int (w1)), some (.int (nI t)), some (.int (nI st)), none], [.ref 32, .int (cb), .ref 26], σ1) rfl ?_ ?_
        · trivial
        have hcb2 : ∀ j, j < 32 → bt cb j = (decide (j < 10) && decide (aCo (atC σ) j ≤ nI t) && (bt (σ 1 1) j && (s.1 j).isNone)) := fun j hj => by rw [hcb j hj, hb j hj, h6]
        refine ev_callV M_X2_byRule [.int (cb), .ref 32] [] 26 rfl rfl ln_X0_51 k_X2_byRule rfl rfl rfl rfl rfl rfl (c_byRule32 σ1 n _ cb hok1 hn1 (ord_srt hO)) ?_
        rintro r σ2 ⟨inm, rfl, hbi, hF, hf2⟩
        have hT : s_fill (atC σ1) (tkC σ1) ((s_srt (kI (σ 6)) (List.range 10)).filter (s_lnp n cb (σ1 7) 0)) ((s_srt (kI (σ 6)) (List.range 10)).filter (s_lnp n cb (σ1 7) 1)) = (a_fl (atC σ) (tkC σ) (laneL n (σ 1 1) (σ 7) 0) (laneL n (σ 1 1) (σ 7) 1) s.1 t) := by
          rw [hat, htk, h7]
          unfold a_fl
          rw [show (s_srt (kI (σ 6)) (List.range 10)).filter (s_lnp n cb (σ 7) 0) = _ from a_gl_c (a := atC σ) (n := n) (l := 0) hcb2, show (s_srt (kI (σ 6)) (List.range 10)).filter (s_lnp n cb (σ 7) 1) = _ from a_gl_c (a := atC σ) (n := n) (l := 1) hcb2]
        rw [hT] at hbi
        have hz := in_zero hbi (fun x hx => by have := a_fl_in (a := atC σ) (tk := tkC σ) (n := n) (w := σ 1 1) x hx; have := hok.1; omega)
        have hf3 : xFr scC σ σ2 := hfr.tr (scC_f hf2)
        have hR2 : cR σ2 (σ 6) s := by unfold cR; rw [hf2 33 (by decide), hf2 31 (by decide)]; exact hR
        have hO2 : rowL (σ2 32) 0 (s_srt (kI (σ 6)) (List.range 10)) := by rw [hf2 32 (by decide)]; exact hO
        show xEv _ _ _ 62 ([some (.ref 31), some (.int (w1)), some (.int (nI t)), some (.int (nI st)), none], [.int (inm)], σ2)
        refine ev_br 2 [] (inm = 0) 98 69 ([some (.ref 31), some (.int (w1)), some (.int (nI t)), some (.int (nI st)), some (.int (inm))], [], σ2) rfl ?_ (fun c66 => ?_) (fun c66 => ?_)
        · trivial
        · refine ev_blk 3 [] 101 ([some (.ref 31), some (.int (w1)), some (.int (nI t)), some (.int (nI st)), some (.int (inm))], [.int (w1), .int (nI t), .ref 31], σ2) rfl ?_ ?_
          · trivial
          have e26 : σ2 6 = σ 6 := hf3 6 (by decide)
          refine ev_callV M_X0_nextComes [.int (nI t), .int (w1)] [] 31 rfl rfl ln_X0_64 k_X0_nextComes rfl rfl rfl rfl rfl rfl (c_nextComes σ2 (nI t) w1 (nI_pos (by omega))) ?_
          rintro r σ2b ⟨⟨nx, rfl, hnx⟩, e2⟩
          rw [e2]
          rw [e26] at hnx
          have hnc := ncI_nc (a := atC σ) hok hw hb hnx
          show xEv _ _ _ 104 ([some (.ref 31), some (.int (w1)), some (.int (nI t)), some (.int (nI st)), some (.int (inm))], [.int (nx)], σ2)
          refine ev_blk 3 [] 34 ([some (.ref 31), some (.int (w1)), some (.int (nx)), some (.int ((nI st) + (1 : Int32))), some (.int (inm))], [], σ2) rfl ?_ ?_
          · trivial
          refine ev_drop 4 ?_
          rw [nI_1]
          have hwn := hz.mp c66
          rcases hnc with ⟨rfl, hn1⟩ | ⟨t2, rfl, ht2, hn1⟩
          · refine c_arun_e σ V (st + 1) w1 σ2 ?_ hf3
            rw [← hV, s_ar, hwn]
            dsimp only
            rw [show a_nc (atC σ) s.1 t (laneL n (σ 1 1) (σ 7) 0 ++ laneL n (σ 1 1) (σ 7) 1) = none from hn1]
            exact hR2
          · refine ih (st + 1) t2 w1 s σ2 (by omega) (by omega) hb hR2 hO2 hf3 ?_
            rw [← hV]; conv => rhs; rw [s_ar]
            rw [hwn]
            dsimp only
            rw [show a_nc (atC σ) s.1 t (laneL n (σ 1 1) (σ 7) 0 ++ laneL n (σ 1 1) (σ 7) 1) = some t2 from hn1]
        · refine ev_blk 3 [] 73 ([some (.ref 31), some (.int (w1)), some (.int (nI t)), some (.int (nI st)), some (.int (inm))], [.int (nI t), .int (inm), .ref 31], σ2) rfl ?_ ?_
          · trivial
          refine ev_callV M_X0_begin [.int (inm), .int (nI t)] [] 31 rfl rfl ln_X0_57 k_X0_begin rfl rfl rfl rfl rfl rfl (c_abegin σ2 inm (nI t)) ?_
          rintro r σ3 ⟨rfl, b4, b5, bw, hf4⟩
          have e93 : σ3 9 3 = nI (a_mi (atC σ)) := by rw [hf4 9 (by decide), hf3 9 (by decide)]; exact (a_mi_ok hok).1
          have hmi := (a_mi_ok hok).2.2
          show xEv _ _ _ 76 ([some (.ref 31), some (.int (w1)), some (.int (nI t)), some (.int (nI st)), some (.int (inm))], [], σ3)
          refine ev_blk 17 [vp_in ((3 : Int32)) 5] 34 ([some (.ref 31), some (.int (w1 &&& (inm ^^^ (-1 : Int32)))), some (.int ((nI t) + ((σ3 9) 3))), some (.int ((nI st) + (1 : Int32))), some (.int (inm))], [], σ3) rfl ?_ ?_
          · exact (vp_in_nI (n := 3) (by decide) (by decide))
          rw [nI_1, e93, nI_add]
          refine ev_drop 4 ?_
          have hwn : ∃ q l, s_went (a_fl (atC σ) (tkC σ) (laneL n (σ 1 1) (σ 7) 0) (laneL n (σ 1 1) (σ 7) 1) s.1 t) = q :: l := by
            cases hww : s_went (a_fl (atC σ) (tkC σ) (laneL n (σ 1 1) (σ 7) 0) (laneL n (σ 1 1) (σ 7) 1) s.1 t) with
            | nil => exact absurd (hz.mpr hww) c66
            | cons q l => exact ⟨q, l, rfl⟩
          obtain ⟨q, l, hql⟩ := hwn
          rw [hql] at hbi
          refine ih (st + 1) (t + a_mi (atC σ)) _ (a_up s.1 (q :: l) t, s.2.1 + 1, some t) σ3 (by omega) (by omega) (fun j hj => ?_) ⟨fun j hj => ?_, ?_, b5⟩ (by rw [hf4 32 (by decide)]; exact hO2) (fun c hc => (hf4 c (fun z => hc (by revert z; simp only [List.mem_cons, List.not_mem_nil, or_false]; rintro (rfl | rfl) <;> decide))).trans (hf3 c hc)) ?_
          · rw [b_and, b_not hj, hb j hj, hbi j hj]
            dsimp only [a_up]
            by_cases hm : j ∈ (q :: l).map Prod.fst
            · rw [if_pos hm, decide_eq_true hm]; simp
            · rw [if_neg hm, decide_eq_false hm]; simp
          · rw [bw j hj, hbi j (by omega), hf3 6 (by decide), hR2.1 j hj]
            dsimp only [a_up]
            by_cases hm : j ∈ (q :: l).map Prod.fst
            · rw [if_pos hm, if_pos (decide_eq_true hm)]; rfl
            · rw [if_neg hm, if_neg (by rw [decide_eq_false hm]; decide)]
          · rw [b4, hR2.2.1, nI_1]
          · rw [← hV]; conv => rhs; rw [s_ar]
            rw [hql]
set_option maxRecDepth 100000 in
theorem c_arun (σ : xSg) (n : Nat) (hok : aOk (atC σ) n) (hn : σ 1 0 = nI n) (hw : ∀ j, j < 32 → bt (σ 1 1) j = true → j < n) : xCtr M_X0_run [.ref 31] σ (fun r σ2 => r = none ∧ cR σ2 (σ 6) (s_ar (atC σ) (tkC σ) (laneL n (σ 1 1) (σ 7) 0) (laneL n (σ 1 1) (σ 7) 1) 21 0 (fun _ => none, 0, none)) ∧ xFr scC σ σ2) := by
  refine ctr_ev ok_X0_run (by decide +kernel) rfl rfl rfl ?_
  show xEv (.inl 5) M_X0_run _ 0 ([some (.ref 31), none, none, none, none], [], σ)
  refine ev_blk 1 [] 1 ([some (.ref 31), none, none, none, none], [.ref 31], σ) rfl ?_ ?_
  · trivial
  refine ev_callV M_X0_sortByComes [] [] 31 rfl rfl ln_X0_26 k_X0_sortByComes rfl rfl rfl rfl rfl rfl (c_sort σ) ?_
  rintro r σ1 ⟨rfl, hO, hf1⟩
  show xEv _ _ _ 4 ([some (.ref 31), none, none, none, none], [], σ1)
  refine ev_blk 3 [] 9 ([some (.ref 31), none, none, none, none], [.int ((-1 : Int32)), .ref 33], σ1) rfl ?_ ?_
  · trivial
  refine ev_callS M_J7_fill_53178 [.ref 33, .int ((-1 : Int32))] [] rfl rfl ln_X0_29 k_J7_fill_53178 rfl rfl rfl (j_fill33 σ1 _) ?_
  rintro r σ2 ⟨rfl, hf2, h33⟩
  show xEv _ _ _ 12 ([some (.ref 31), none, none, none, none], [], σ2)
  refine ev_blk 14 [] 34 ([some (.ref 31), some (.int ((σ2 1 1))), some (.int ((0 : Int32))), some (.int ((0 : Int32))), none], [], (x_up (x_up σ2 31 (upd (σ2 31) 4 ((0 : Int32)))) 31 (upd (upd (σ2 31) 4 ((0 : Int32))) 5 ((-1 : Int32))))) rfl ?_ ?_
  · trivial
  have hf : ∀ c, c ≠ 31 → c ≠ 32 → c ≠ 33 → (x_up (x_up σ2 31 (upd (σ2 31) 4 ((0 : Int32)))) 31 (upd (upd (σ2 31) 4 ((0 : Int32))) 5 ((-1 : Int32)))) c = σ c := fun c h1 h2 h3 => by rw [x_up_ne h1, x_up_ne h1, hf2 c h3]; exact hf1 c (by simpa using h2)
  rw [show σ2 1 1 = σ 1 1 from congrFun ((hf2 1 (by decide)).trans (hf1 1 (by decide))) 1]
  refine c_arun_lp σ n hok hn hw _ 21 0 0 (σ 1 1) _ _ (by omega) (by omega) (fun j hj => by simp) ⟨fun j hj => ?_, ?_, ?_⟩ ?_ (fun c hc => hf c (fun q => hc (by rw [q]; decide)) (fun q => hc (by rw [q]; decide)) (fun q => hc (by rw [q]; decide))) rfl
  · rw [x_up_ne (by decide), x_up_ne (by decide)]; exact h33 j hj
  · simp [x_up, upd]; rfl
  · simp [x_up, upd]; rfl
  · rw [x_up_ne (by decide), x_up_ne (by decide), hf2 32 (by decide)]; exact hO
