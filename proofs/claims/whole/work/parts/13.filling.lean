theorem x_get_drop {L : List (Option Value)} {i j : Nat} {v : Value} (h : x_get (x_set L i none) j = some v) : x_get L j = some v := by
  by_cases hj : j = i
  · subst hj
    have := x_get_set_eq L j none v h
    cases this
  · rwa [x_get_set_ne L i j none hj] at h
theorem ev_drop {o : xO} {M : xM} {Q : Option Value → xSg → Prop} {pc : Nat} {L st : List _} {σ : xSg} (i : Nat) (k : xEv o M Q pc (x_set L i none, st, σ)) : xEv o M Q pc (L, st, σ) :=
  fun ok p l e s m args below meth c ad ca D X H locs ls hP hS hL => k ok p l e s m args below meth c ad ca D X H locs ls hP hS ⟨hL.1, hL.2.1, fun j v hj => hL.2.2 j v (x_get_drop hj)⟩
def s_oi : Option Nat → Int32
  | none => -1
  | some p => nI p
theorem msk0 {cl : Int32} {tk : sTk} {sp r p : Nat} (hs : sp ≤ 20) (hp : p + sp ≤ 20) (hcl : ∀ q, q < 20 → bt cl q = tk r q) : (cl &&& ((1 : Int32) <<< (nI sp &&& 31) - 1) <<< (nI p &&& 31)) = 0 ↔ s_fit tk sp r p = true := by
  rw [b_zero, s_fit_iff]
  constructor
  · intro h q h1 h2
    have h3 := h q (by omega)
    rw [b_and, b_msk sp (by omega) p (by omega) hp q (by omega)] at h3
    rw [← hcl q (by omega)]
    simpa [h1, h2] using h3
  · intro h i hi
    rw [b_and, b_msk sp (by omega) p (by omega) hp i hi]
    by_cases hx : p ≤ i ∧ i < p + sp
    · rw [hcl i (by omega), h i hx.1 hx.2]
      simp
    · rcases Nat.lt_or_ge i p with h1 | h1
      · simp [Nat.not_le.mpr h1]
      · have h2 : ¬ i < p + sp := fun q => hx ⟨h1, q⟩
        simp [h2]
theorem s_span_c : ∀ j, j < 6 → ∀ l, l < 10 → 1 ≤ l → s_span (fun _ => nI j) (fun _ => nI l) 0 = nI (s_span (fun _ => nI j) (fun _ => nI l) 0).toNatClampNeg ∧ 1 ≤ (s_span (fun _ => nI j) (fun _ => nI l) 0).toNatClampNeg ∧ (s_span (fun _ => nI j) (fun _ => nI l) 0).toNatClampNeg ≤ 20 := by decide +kernel
theorem s_sp_ok {a : sAt} {n x : Nat} (h : aOk a n) (hx : x < n) : s_span (aK a) (aLn a) x = nI (s_sp a x) ∧ 1 ≤ s_sp a x ∧ s_sp a x ≤ 20 := by
  obtain ⟨⟨j, hj, -, hj5⟩, ⟨l, hl, hl1, hl9⟩, -⟩ := h.2.1 x hx
  have e : s_span (aK a) (aLn a) x = s_span (fun _ => nI j) (fun _ => nI l) 0 := by unfold s_span; rw [hj, hl]
  unfold s_sp
  rw [e]
  exact s_span_c j (by omega) l (by omega) hl1
theorem s_long_ok {a : sAt} {n : Nat} (h : aOk a n) : aS a 0 = nI (s_long a) ∧ 1 ≤ s_long a ∧ s_long a ≤ 20 := by
  obtain ⟨j, hj, h1, h2⟩ := h.2.2.1
  unfold s_long
  rw [hj, nI_clamp (by omega)]
  exact ⟨rfl, h1, h2⟩
theorem s_rows_ok {a : sAt} {n : Nat} (h : aOk a n) : aS a 1 = nI (s_rows a) ∧ 1 ≤ s_rows a ∧ s_rows a ≤ 3 := by
  obtain ⟨j, hj, h1, h2⟩ := h.2.2.2.1
  unfold s_rows
  rw [hj, nI_clamp (by omega)]
  exact ⟨rfl, h1, h2⟩
theorem s_plr_some {tk : sTk} {sp r : Nat} : ∀ {n p q : Nat}, s_plr tk sp r n p = some q → p ≤ q ∧ q < p + n ∧ s_fit tk sp r q = true
  | 0, p, q, h => by cases h
  | n + 1, p, q, h => by
    unfold s_plr at h
    split at h
    next hf => cases h; exact ⟨Nat.le_refl _, by omega, hf⟩
    next hf =>
      obtain ⟨h1, h2, h3⟩ := s_plr_some h
      exact ⟨by omega, by omega, h3⟩
theorem nI_m1 {p : Nat} (h : p < 2 ^ 31) : ¬ nI p = -1 := fun q => by
  have h1 := congrArg Int32.toInt q
  rw [nI_toInt h] at h1
  have h2 : ((-1 : Int32)).toInt = -1 := by decide
  omega
def FR (a : sAt) (σ : xSg) (ko kc kw kr kp : Nat) (F : sFl) : Prop := F.2.length ≤ 10 ∧ (∀ r q, r < 3 → q < 20 → bt (σ kc r) q = F.1 r q) ∧ σ ko 5 = nI F.2.length ∧ σ ko 6 = s_lds a F.2 ∧ σ ko 7 = zi (s_tank a F.2 = true) ∧
  ∀ (i x r p : Nat), F.2[i]? = some (x, r, p) → σ kw i = nI x ∧ σ kr i = nI r ∧ σ kp i = nI p
/-- nothing but these cells has changed -/
def xFr (S : List Nat) (σ σ' : xSg) : Prop := ∀ c, c ∉ S → σ' c = σ c
theorem xFr.rf {S : List Nat} {σ : xSg} : xFr S σ σ := fun _ _ => rfl
theorem xFr.tr {S : List Nat} {σ σ1 σ2 : xSg} (h1 : xFr S σ σ1) (h2 : xFr S σ1 σ2) : xFr S σ σ2 := fun c hc => (h2 c hc).trans (h1 c hc)
theorem xFr.mono {S S' : List Nat} {σ σ1 : xSg} (h1 : xFr S σ σ1) (h : ∀ c, c ∈ S → c ∈ S') : xFr S' σ σ1 := fun c hc => h1 c (fun q => hc (h c q))
theorem s_lds_app (a : sAt) (q : Nat × Nat × Nat) : ∀ l, s_lds a (l ++ [q]) = s_lds a l + aLo a q.1
  | [] => by simp [s_lds]
  | b :: l => by
    simp only [List.cons_append, s_lds]
    rw [s_lds_app a q l, Int32.add_assoc]
def eQ (a : sAt) (ko kc kw kr kp : Nat) (σ : xSg) (x : Nat) (F : sFl) : Option Value → xSg → Prop := fun r σ' => (∃ F', s_in a x F = some F' ∧ r = some (.int 1) ∧ FR a σ' ko kc kw kr kp F' ∧ xFr [ko, kc, kw, kr, kp] σ σ') ∨ (s_in a x F = none ∧ r = some (.int 0) ∧ σ' = σ)
theorem s_bar_f {a : sAt} {x : Nat} {F : sFl} (h : s_bar a x F.2 = true) : s_in a x F = none := by unfold s_in; rw [if_pos h]
theorem s_in_none {a : sAt} {x : Nat} {F : sFl} (h : s_plc a F.1 (s_sp a x) (s_rows a) 0 = none) : s_in a x F = none := by
  unfold s_in
  split
  · rfl
  · rw [h]
theorem s_in_some {a : sAt} {x r p : Nat} {F : sFl} (hb : s_bar a x F.2 = false) (h : s_plc a F.1 (s_sp a x) (s_rows a) 0 = some (r, p)) : s_in a x F = some (s_mark F.1 r p (s_sp a x), F.2 ++ [(x, r, p)]) := by
  unfold s_in
  rw [if_neg (by rw [hb]; decide), h]
theorem s_tank_app {a : sAt} {w : List (Nat × Nat × Nat)} {q : Nat × Nat × Nat} (h : w ≠ []) : s_tank a (w ++ [q]) = s_tank a w := by
  cases w with
  | nil => exact absurd rfl h
  | cons b l => rfl
theorem upd_eq {f : Nat → Int32} {k : Nat} {x : Int32} : upd f k x k = x := by unfold upd; rw [if_pos rfl]
theorem upd_ne {f : Nat → Int32} {k j : Nat} {x : Int32} (h : j ≠ k) : upd f k x j = f j := by unfold upd; rw [if_neg h]
/-- what a ship's going in does to the rows -/
theorem FR_put {a : sAt} {σ σ' : xSg} {ko kc kw kr kp x r p sp : Nat} {F : sFl} {tv : Int32} (h : FR a σ ko kc kw kr kp F) (hl : F.2.length < 10) (hs : sp ≤ 20) (hp : p + sp ≤ 20) (hr : r < 3)
    (htv : tv = zi (s_tank a (F.2 ++ [(x, r, p)]) = true)) (e5 : σ' ko 5 = nI F.2.length + 1) (e6 : σ' ko 6 = s_lds a F.2 + aLo a x) (e7 : σ' ko 7 = tv)
    (ec : σ' kc = upd (σ kc) r (σ kc r ||| ((1 : Int32) <<< (nI sp &&& 31) - 1) <<< (nI p &&& 31))) (ew : σ' kw = upd (σ kw) F.2.length (nI x)) (er : σ' kr = upd (σ kr) F.2.length (nI r)) (ep : σ' kp = upd (σ kp) F.2.length (nI p)) :
    FR a σ' ko kc kw kr kp (s_mark F.1 r p sp, F.2 ++ [(x, r, p)]) := by
  obtain ⟨h1, h2, h3, h4, h5, h6⟩ := h
  refine ⟨by simp; omega, fun r' q hr' hq => ?_, by rw [e5, nI_1]; simp, by rw [e6, s_lds_app], by rw [e7, htv], fun i y r' p' hi => ?_⟩
  · rw [ec]
    unfold s_mark
    by_cases hrr : r' = r
    · subst hrr
      rw [upd_eq, b_or, h2 r' q hr' hq, b_msk sp (by omega) p (by omega) hp q (by omega)]
      simp
    · rw [upd_ne hrr, h2 r' q hr' hq]
      simp [hrr]
  · rw [ew, er, ep]
    by_cases hil : i < F.2.length
    · dsimp only at hi
      rw [List.getElem?_append_left hil] at hi
      rw [upd_ne (by omega), upd_ne (by omega), upd_ne (by omega)]
      exact h6 i y r' p' hi
    · dsimp only at hi
      rw [List.getElem?_append_right (by omega)] at hi
      have hi1 : i - F.2.length < 1 := (List.getElem?_eq_some_iff.mp hi).1
      have hi0 : i = F.2.length := by omega
      subst hi0
      rw [Nat.sub_self] at hi
      cases hi
      rw [upd_eq, upd_eq, upd_eq]
      exact ⟨rfl, rfl, rfl⟩
set_option maxRecDepth 100000 in
theorem c_firstRun26_lp (σ : xSg) (cl : Int32) (tk : sTk) (sp lg r : Nat) (hl : σ 9 0 = nI lg) (hlg : lg ≤ 20) (hs1 : 1 ≤ sp) (hs2 : sp ≤ 20) (hcl : ∀ q, q < 20 → bt cl q = tk r q) : ∀ (n p : Nat), lg + 1 - sp - p = n → p ≤ 20 → xEv (.inl 1) M_X2_firstRun (fun r1 σ1 => r1 = some (.int (s_oi (s_plr tk sp r n p))) ∧ σ1 = σ) 2 ([some (.ref 26), some (.int (cl)), some (.int (nI sp)), some (.int (nI p))], [], σ) := by
  intro n
  induction n with
  | zero =>
    intro p hn hp
    refine ev_br 8 [vp_in ((0 : Int32)) 5] (((σ 9) 0) < ((nI p) + (nI sp))) 36 17 ([some (.ref 26), some (.int (cl)), some (.int (nI sp)), some (.int (nI p))], [], σ) rfl ?_ (fun c14 => ?_) (fun c14 => ?_)
    · exact vp_in_nI (n := 0) (by decide) (by decide)
    · refine ev_blk 1 [] 37 ([some (.ref 26), some (.int (cl)), some (.int (nI sp)), some (.int (nI p))], [.int ((-1 : Int32))], σ) rfl ?_ ?_
      · trivial
      exact ev_iret rfl rfl rfl ⟨rfl, rfl⟩
    · rw [hl, nI_add, nI_ltI (by omega) (by omega)] at c14
      omega
  | succ n ih =>
    intro p hn hp
    refine ev_br 8 [vp_in ((0 : Int32)) 5] (((σ 9) 0) < ((nI p) + (nI sp))) 36 17 ([some (.ref 26), some (.int (cl)), some (.int (nI sp)), some (.int (nI p))], [], σ) rfl ?_ (fun c14 => ?_) (fun c14 => ?_)
    · exact vp_in_nI (n := 0) (by decide) (by decide)
    · rw [hl, nI_add, nI_ltI (by omega) (by omega)] at c14
      omega
    · refine ev_blk 2 [] 19 ([some (.ref 26), some (.int (cl)), some (.int (nI sp)), some (.int (nI p))], [.int (nI sp), .int (cl)], σ) rfl ?_ ?_
      · trivial
      refine ev_callS M_X2_run [.int (nI sp)] [.int (cl)] rfl rfl ln_X2_73 k_X2_run rfl rfl rfl (c_run _ _) ?_
      refine pu_k ?_
      show xEv _ _ _ 22 ([some (.ref 26), some (.int (cl)), some (.int (nI sp)), some (.int (nI p))], [.int ((1 : Int32) <<< ((nI sp) &&& 31) - 1), .int (cl)], σ)
      refine ev_br 3 [] (¬ (cl &&& (((1 : Int32) <<< ((nI sp) &&& 31) - 1) <<< ((nI p) &&& 31))) = 0) 30 28 ([some (.ref 26), some (.int (cl)), some (.int (nI sp)), some (.int (nI p))], [], σ) rfl ?_ (fun c25 => ?_) (fun c25 => ?_)
      · trivial
      · refine ev_blk 2 [] 2 ([some (.ref 26), some (.int (cl)), some (.int (nI sp)), some (.int ((nI p) + (1 : Int32)))], [], σ) rfl ?_ ?_
        · trivial
        rw [hl, nI_add, nI_ltI (by omega) (by omega)] at c14
        replace c25 : ¬ s_fit tk sp r p = true := fun q => c25 ((msk0 hs2 (by omega) hcl).mpr q)
        rw [show s_plr tk sp r (n + 1) p = s_plr tk sp r n (p + 1) by rw [s_plr, if_neg c25]]
        rw [nI_1]
        exact ih (p + 1) (by omega) (by omega)
      · refine ev_blk 1 [] 29 ([some (.ref 26), some (.int (cl)), some (.int (nI sp)), some (.int (nI p))], [.int (nI p)], σ) rfl ?_ ?_
        · trivial
        rw [hl, nI_add, nI_ltI (by omega) (by omega)] at c14
        replace c25 := (msk0 hs2 (by omega) hcl).mp (Classical.byContradiction c25)
        exact ev_iret rfl rfl rfl ⟨by rw [s_plr, if_pos c25]; rfl, rfl⟩
set_option maxRecDepth 100000 in
theorem c_firstRun26 (σ : xSg) (cl : Int32) (tk : sTk) (sp lg r : Nat) (hl : σ 9 0 = nI lg) (hlg : lg ≤ 20) (hs1 : 1 ≤ sp) (hs2 : sp ≤ 20) (hcl : ∀ q, q < 20 → bt cl q = tk r q) : xPu M_X2_firstRun [.ref 26, .int cl, .int (nI sp)] σ (.int (s_oi (s_plr tk sp r (lg + 1 - sp) 0))) := by
  refine ctr_ev ok_X2_firstRun (by decide +kernel) rfl rfl rfl ?_
  show xEv (.inl 1) M_X2_firstRun _ 0 ([some (.ref 26), some (.int (cl)), some (.int (nI sp)), none], [], σ)
  refine ev_blk 2 [] 2 ([some (.ref 26), some (.int (cl)), some (.int (nI sp)), some (.int ((0 : Int32)))], [], σ) rfl ?_ ?_
  · trivial
  exact c_firstRun26_lp σ cl tk sp lg r hl hlg hs1 hs2 hcl _ 0 (by omega) (by omega)
set_option maxRecDepth 100000 in
theorem c_firstRun38_lp (σ : xSg) (cl : Int32) (tk : sTk) (sp lg r : Nat) (hl : σ 9 0 = nI lg) (hlg : lg ≤ 20) (hs1 : 1 ≤ sp) (hs2 : sp ≤ 20) (hcl : ∀ q, q < 20 → bt cl q = tk r q) : ∀ (n p : Nat), lg + 1 - sp - p = n → p ≤ 20 → xEv (.inl 1) M_X2_firstRun (fun r1 σ1 => r1 = some (.int (s_oi (s_plr tk sp r n p))) ∧ σ1 = σ) 2 ([some (.ref 38), some (.int (cl)), some (.int (nI sp)), some (.int (nI p))], [], σ) := by
  intro n
  induction n with
  | zero =>
    intro p hn hp
    refine ev_br 8 [vp_in ((0 : Int32)) 5] (((σ 9) 0) < ((nI p) + (nI sp))) 36 17 ([some (.ref 38), some (.int (cl)), some (.int (nI sp)), some (.int (nI p))], [], σ) rfl ?_ (fun c14 => ?_) (fun c14 => ?_)
    · exact vp_in_nI (n := 0) (by decide) (by decide)
    · refine ev_blk 1 [] 37 ([some (.ref 38), some (.int (cl)), some (.int (nI sp)), some (.int (nI p))], [.int ((-1 : Int32))], σ) rfl ?_ ?_
      · trivial
      exact ev_iret rfl rfl rfl ⟨rfl, rfl⟩
    · rw [hl, nI_add, nI_ltI (by omega) (by omega)] at c14
      omega
  | succ n ih =>
    intro p hn hp
    refine ev_br 8 [vp_in ((0 : Int32)) 5] (((σ 9) 0) < ((nI p) + (nI sp))) 36 17 ([some (.ref 38), some (.int (cl)), some (.int (nI sp)), some (.int (nI p))], [], σ) rfl ?_ (fun c14 => ?_) (fun c14 => ?_)
    · exact vp_in_nI (n := 0) (by decide) (by decide)
    · rw [hl, nI_add, nI_ltI (by omega) (by omega)] at c14
      omega
    · refine ev_blk 2 [] 19 ([some (.ref 38), some (.int (cl)), some (.int (nI sp)), some (.int (nI p))], [.int (nI sp), .int (cl)], σ) rfl ?_ ?_
      · trivial
      refine ev_callS M_X2_run [.int (nI sp)] [.int (cl)] rfl rfl ln_X2_73 k_X2_run rfl rfl rfl (c_run _ _) ?_
      refine pu_k ?_
      show xEv _ _ _ 22 ([some (.ref 38), some (.int (cl)), some (.int (nI sp)), some (.int (nI p))], [.int ((1 : Int32) <<< ((nI sp) &&& 31) - 1), .int (cl)], σ)
      refine ev_br 3 [] (¬ (cl &&& (((1 : Int32) <<< ((nI sp) &&& 31) - 1) <<< ((nI p) &&& 31))) = 0) 30 28 ([some (.ref 38), some (.int (cl)), some (.int (nI sp)), some (.int (nI p))], [], σ) rfl ?_ (fun c25 => ?_) (fun c25 => ?_)
      · trivial
      · refine ev_blk 2 [] 2 ([some (.ref 38), some (.int (cl)), some (.int (nI sp)), some (.int ((nI p) + (1 : Int32)))], [], σ) rfl ?_ ?_
        · trivial
        rw [hl, nI_add, nI_ltI (by omega) (by omega)] at c14
        replace c25 : ¬ s_fit tk sp r p = true := fun q => c25 ((msk0 hs2 (by omega) hcl).mpr q)
        rw [show s_plr tk sp r (n + 1) p = s_plr tk sp r n (p + 1) by rw [s_plr, if_neg c25]]
        rw [nI_1]
        exact ih (p + 1) (by omega) (by omega)
      · refine ev_blk 1 [] 29 ([some (.ref 38), some (.int (cl)), some (.int (nI sp)), some (.int (nI p))], [.int (nI p)], σ) rfl ?_ ?_
        · trivial
        rw [hl, nI_add, nI_ltI (by omega) (by omega)] at c14
        replace c25 := (msk0 hs2 (by omega) hcl).mp (Classical.byContradiction c25)
        exact ev_iret rfl rfl rfl ⟨by rw [s_plr, if_pos c25]; rfl, rfl⟩
set_option maxRecDepth 100000 in
theorem c_firstRun38 (σ : xSg) (cl : Int32) (tk : sTk) (sp lg r : Nat) (hl : σ 9 0 = nI lg) (hlg : lg ≤ 20) (hs1 : 1 ≤ sp) (hs2 : sp ≤ 20) (hcl : ∀ q, q < 20 → bt cl q = tk r q) : xPu M_X2_firstRun [.ref 38, .int cl, .int (nI sp)] σ (.int (s_oi (s_plr tk sp r (lg + 1 - sp) 0))) := by
  refine ctr_ev ok_X2_firstRun (by decide +kernel) rfl rfl rfl ?_
  show xEv (.inl 1) M_X2_firstRun _ 0 ([some (.ref 38), some (.int (cl)), some (.int (nI sp)), none], [], σ)
  refine ev_blk 2 [] 2 ([some (.ref 38), some (.int (cl)), some (.int (nI sp)), some (.int ((0 : Int32)))], [], σ) rfl ?_ ?_
  · trivial
  exact c_firstRun38_lp σ cl tk sp lg r hl hlg hs1 hs2 hcl _ 0 (by omega) (by omega)
set_option maxRecDepth 100000 in
theorem c_firstRun43_lp (σ : xSg) (cl : Int32) (tk : sTk) (sp lg r : Nat) (hl : σ 9 0 = nI lg) (hlg : lg ≤ 20) (hs1 : 1 ≤ sp) (hs2 : sp ≤ 20) (hcl : ∀ q, q < 20 → bt cl q = tk r q) : ∀ (n p : Nat), lg + 1 - sp - p = n → p ≤ 20 → xEv (.inl 1) M_X2_firstRun (fun r1 σ1 => r1 = some (.int (s_oi (s_plr tk sp r n p))) ∧ σ1 = σ) 2 ([some (.ref 43), some (.int (cl)), some (.int (nI sp)), some (.int (nI p))], [], σ) := by
  intro n
  induction n with
  | zero =>
    intro p hn hp
    refine ev_br 8 [vp_in ((0 : Int32)) 5] (((σ 9) 0) < ((nI p) + (nI sp))) 36 17 ([some (.ref 43), some (.int (cl)), some (.int (nI sp)), some (.int (nI p))], [], σ) rfl ?_ (fun c14 => ?_) (fun c14 => ?_)
    · exact vp_in_nI (n := 0) (by decide) (by decide)
    · refine ev_blk 1 [] 37 ([some (.ref 43), some (.int (cl)), some (.int (nI sp)), some (.int (nI p))], [.int ((-1 : Int32))], σ) rfl ?_ ?_
      · trivial
      exact ev_iret rfl rfl rfl ⟨rfl, rfl⟩
    · rw [hl, nI_add, nI_ltI (by omega) (by omega)] at c14
      omega
  | succ n ih =>
    intro p hn hp
    refine ev_br 8 [vp_in ((0 : Int32)) 5] (((σ 9) 0) < ((nI p) + (nI sp))) 36 17 ([some (.ref 43), some (.int (cl)), some (.int (nI sp)), some (.int (nI p))], [], σ) rfl ?_ (fun c14 => ?_) (fun c14 => ?_)
    · exact vp_in_nI (n := 0) (by decide) (by decide)
    · rw [hl, nI_add, nI_ltI (by omega) (by omega)] at c14
      omega
    · refine ev_blk 2 [] 19 ([some (.ref 43), some (.int (cl)), some (.int (nI sp)), some (.int (nI p))], [.int (nI sp), .int (cl)], σ) rfl ?_ ?_
      · trivial
      refine ev_callS M_X2_run [.int (nI sp)] [.int (cl)] rfl rfl ln_X2_73 k_X2_run rfl rfl rfl (c_run _ _) ?_
      refine pu_k ?_
      show xEv _ _ _ 22 ([some (.ref 43), some (.int (cl)), some (.int (nI sp)), some (.int (nI p))], [.int ((1 : Int32) <<< ((nI sp) &&& 31) - 1), .int (cl)], σ)
      refine ev_br 3 [] (¬ (cl &&& (((1 : Int32) <<< ((nI sp) &&& 31) - 1) <<< ((nI p) &&& 31))) = 0) 30 28 ([some (.ref 43), some (.int (cl)), some (.int (nI sp)), some (.int (nI p))], [], σ) rfl ?_ (fun c25 => ?_) (fun c25 => ?_)
      · trivial
      · refine ev_blk 2 [] 2 ([some (.ref 43), some (.int (cl)), some (.int (nI sp)), some (.int ((nI p) + (1 : Int32)))], [], σ) rfl ?_ ?_
        · trivial
        rw [hl, nI_add, nI_ltI (by omega) (by omega)] at c14
        replace c25 : ¬ s_fit tk sp r p = true := fun q => c25 ((msk0 hs2 (by omega) hcl).mpr q)
        rw [show s_plr tk sp r (n + 1) p = s_plr tk sp r n (p + 1) by rw [s_plr, if_neg c25]]
        rw [nI_1]
        exact ih (p + 1) (by omega) (by omega)
      · refine ev_blk 1 [] 29 ([some (.ref 43), some (.int (cl)), some (.int (nI sp)), some (.int (nI p))], [.int (nI p)], σ) rfl ?_ ?_
        · trivial
        rw [hl, nI_add, nI_ltI (by omega) (by omega)] at c14
        replace c25 := (msk0 hs2 (by omega) hcl).mp (Classical.byContradiction c25)
        exact ev_iret rfl rfl rfl ⟨by rw [s_plr, if_pos c25]; rfl, rfl⟩
set_option maxRecDepth 100000 in
theorem c_firstRun43 (σ : xSg) (cl : Int32) (tk : sTk) (sp lg r : Nat) (hl : σ 9 0 = nI lg) (hlg : lg ≤ 20) (hs1 : 1 ≤ sp) (hs2 : sp ≤ 20) (hcl : ∀ q, q < 20 → bt cl q = tk r q) : xPu M_X2_firstRun [.ref 43, .int cl, .int (nI sp)] σ (.int (s_oi (s_plr tk sp r (lg + 1 - sp) 0))) := by
  refine ctr_ev ok_X2_firstRun (by decide +kernel) rfl rfl rfl ?_
  show xEv (.inl 1) M_X2_firstRun _ 0 ([some (.ref 43), some (.int (cl)), some (.int (nI sp)), none], [], σ)
  refine ev_blk 2 [] 2 ([some (.ref 43), some (.int (cl)), some (.int (nI sp)), some (.int ((0 : Int32)))], [], σ) rfl ?_ ?_
  · trivial
  exact c_firstRun43_lp σ cl tk sp lg r hl hlg hs1 hs2 hcl _ 0 (by omega) (by omega)
set_option maxRecDepth 100000 in
theorem c_enter26_lp (σ : xSg) (n x : Nat) (F : sFl) (hok : aOk (atC σ) n) (hn : σ 1 0 = nI n) (hx : x < n) (hF : FR (atC σ) σ 26 27 28 29 30 F) (hl : F.2.length < 10) (tv : Int32) (hb : s_bar (atC σ) x F.2 = false) (htv : ∀ r p, tv = zi (s_tank (atC σ) (F.2 ++ [(x, r, p)]) = true)) (htv2 : tv = 0 ∨ tv = 1) : ∀ (m r : Nat), r + m = s_rows (atC σ) → s_plc (atC σ) F.1 (s_sp (atC σ) x) (s_rows (atC σ)) 0 = s_plc (atC σ) F.1 (s_sp (atC σ) x) m r → xEv (.inl 2) M_X2_enter (eQ (atC σ) 26 27 28 29 30 σ x F) 73 ([some (.ref 26), some (.int (nI x)), some (.int (tv)), some (.int (nI (s_sp (atC σ) x))), some (.int (nI r)), none], [], σ) := by
  have hn10 := hok.1
  obtain ⟨hs0, hs1, hs2⟩ := s_sp_ok hok hx
  obtain ⟨hg0, hg1, hg2⟩ := s_long_ok hok
  obtain ⟨hr0, hr1, hr2⟩ := s_rows_ok hok
  have h5 := hF.2.2.1
  have hxc : (nI x).toNatClampNeg = x := nI_clamp (by omega)
  have h5c : (σ 26 5).toNatClampNeg = F.2.length := by rw [h5, nI_clamp (by omega)]
  intro m
  induction m with
  | zero =>
    intro r hm hp
    refine ev_br 6 [vp_in ((1 : Int32)) 5] (((σ 9) 1) ≤ (nI r)) 203 87 ([some (.ref 26), some (.int (nI x)), some (.int (tv)), some (.int (nI (s_sp (atC σ) x))), some (.int (nI r)), none], [], σ) rfl ?_ (fun c84 => ?_) (fun c84 => ?_)
    · exact vp_in_nI (n := 1) (by decide) (by decide)
    · refine ev_blk 1 [] 204 ([some (.ref 26), some (.int (nI x)), some (.int (tv)), some (.int (nI (s_sp (atC σ) x))), some (.int (nI r)), none], [.int ((0 : Int32))], σ) rfl ?_ ?_
      · trivial
      exact ev_iret rfl rfl nar0 (Or.inr ⟨s_in_none hp, rfl, rfl⟩)
    · exact absurd (show aS (atC σ) 1 ≤ nI r by rw [hr0]; exact (nI_leI (by omega) (by omega)).mpr (by omega)) c84
  | succ m ih =>
    intro r hm hp
    have hrc : (nI r).toNatClampNeg = r := nI_clamp (by omega)
    refine ev_br 6 [vp_in ((1 : Int32)) 5] (((σ 9) 1) ≤ (nI r)) 203 87 ([some (.ref 26), some (.int (nI x)), some (.int (tv)), some (.int (nI (s_sp (atC σ) x))), some (.int (nI r)), none], [], σ) rfl ?_ (fun c84 => ?_) (fun c84 => ?_)
    · exact vp_in_nI (n := 1) (by decide) (by decide)
    · exact absurd ((nI_leI (by omega) (by omega)).mp (show nI (s_rows (atC σ)) ≤ nI r by rw [← hr0]; exact c84)) (by omega)
    · refine ev_br 2 [] ((3 : Int32) ≤ (nI r)) 203 93 ([some (.ref 26), some (.int (nI x)), some (.int (tv)), some (.int (nI (s_sp (atC σ) x))), some (.int (nI r)), none], [], σ) rfl ?_ (fun c90 => ?_) (fun c90 => ?_)
      · trivial
      · exact absurd ((nI_leI (a := 3) (by omega) (by omega)).mp c90) (by omega)
      · refine ev_blk 6 [vp_in (nI r) 3] 102 ([some (.ref 26), some (.int (nI x)), some (.int (tv)), some (.int (nI (s_sp (atC σ) x))), some (.int (nI r)), none], [.int (nI (s_sp (atC σ) x)), .int ((σ 27) (nI r).toNatClampNeg), .ref 26], σ) rfl ?_ ?_
        · exact vp_in_nI (by omega) (by decide)
        rw [hrc]
        refine ev_callV M_X2_firstRun [.int ((σ 27) r), .int (nI (s_sp (atC σ) x))] [] 26 rfl rfl ln_X2_70 k_X2_firstRun rfl rfl rfl rfl rfl rfl (c_firstRun26 σ _ F.1 (s_sp (atC σ) x) (s_long (atC σ)) r hg0 hg2 hs1 hs2 (fun q hq => hF.2.1 r q (by omega) hq)) ?_
        refine pu_k ?_
        cases hpl : s_plr F.1 (s_sp (atC σ) x) r (s_long (atC σ) + 1 - s_sp (atC σ) x) 0 with
        | none =>
          show xEv _ _ _ 105 ([some (.ref 26), some (.int (nI x)), some (.int (tv)), some (.int (nI (s_sp (atC σ) x))), some (.int (nI r)), none], [.int ((-1 : Int32))], σ)
          refine ev_br 3 [] ((-1 : Int32) = (-1 : Int32)) 197 113 ([some (.ref 26), some (.int (nI x)), some (.int (tv)), some (.int (nI (s_sp (atC σ) x))), some (.int (nI r)), some (.int ((-1 : Int32)))], [], σ) rfl ?_ (fun c110 => ?_) (fun c110 => ?_)
          · trivial
          · refine ev_blk 2 [] 73 ([some (.ref 26), some (.int (nI x)), some (.int (tv)), some (.int (nI (s_sp (atC σ) x))), some (.int ((nI r) + (1 : Int32))), some (.int ((-1 : Int32)))], [], σ) rfl ?_ ?_
            · trivial
            rw [nI_1]
            refine ev_drop 5 ?_
            exact ih (r + 1) (by omega) (by rw [hp, s_plc, hpl])
          · exact absurd rfl c110
        | some p =>
          obtain ⟨hp1, hp2, hp3⟩ := s_plr_some hpl
          show xEv _ _ _ 105 ([some (.ref 26), some (.int (nI x)), some (.int (tv)), some (.int (nI (s_sp (atC σ) x))), some (.int (nI r)), none], [.int (nI p)], σ)
          refine ev_br 3 [] ((nI p) = (-1 : Int32)) 197 113 ([some (.ref 26), some (.int (nI x)), some (.int (tv)), some (.int (nI (s_sp (atC σ) x))), some (.int (nI r)), some (.int (nI p))], [], σ) rfl ?_ (fun c110 => ?_) (fun c110 => ?_)
          · trivial
          · exact absurd c110 (nI_m1 (by omega))
          · refine ev_blk 6 [vp_in (nI r) 3] 122 ([some (.ref 26), some (.int (nI x)), some (.int (tv)), some (.int (nI (s_sp (atC σ) x))), some (.int (nI r)), some (.int (nI p))], [.int (nI (s_sp (atC σ) x)), .int ((σ 27) (nI r).toNatClampNeg), .int (nI r), .ref 27], σ) rfl ?_ ?_
            · exact vp_in_nI (by omega) (by decide)
            rw [hrc]
            refine ev_callS M_X2_run [.int (nI (s_sp (atC σ) x))] [.int ((σ 27) r), .int (nI r), .ref 27] rfl rfl ln_X2_73 k_X2_run rfl rfl rfl (c_run _ _) ?_
            refine pu_k ?_
            show xEv _ _ _ 125 ([some (.ref 26), some (.int (nI x)), some (.int (tv)), some (.int (nI (s_sp (atC σ) x))), some (.int (nI r)), some (.int (nI p))], [.int ((1 : Int32) <<< ((nI (s_sp (atC σ) x)) &&& 31) - 1), .int ((σ 27) r), .int (nI r), .ref 27], σ)
            refine ev_blk 42 [vp_in (nI r) 3, vp_in ((σ 26 5)) 10, vp_in ((σ 26 5)) 10, vp_in ((σ 26 5)) 10, vp_in (nI x) 10, tv = 0 ∨ tv = 1] 196 ([some (.ref 26), some (.int (nI x)), some (.int (tv)), some (.int (nI (s_sp (atC σ) x))), some (.int (nI r)), some (.int (nI p))], [.int ((1 : Int32))], (x_up (x_up (x_up (x_up (x_up (x_up (x_up σ 27 (upd (σ 27) (nI r).toNatClampNeg (((σ 27) r) ||| (((1 : Int32) <<< ((nI (s_sp (atC σ) x)) &&& 31) - 1) <<< ((nI p) &&& 31))))) 28 (upd (σ 28) (σ 26 5).toNatClampNeg (nI x))) 29 (upd (σ 29) (σ 26 5).toNatClampNeg (nI r))) 30 (upd (σ 30) (σ 26 5).toNatClampNeg (nI p))) 26 (upd (σ 26) 5 ((σ 26 5) + (1 : Int32)))) 26 (upd (upd (σ 26) 5 ((σ 26 5) + (1 : Int32))) 6 ((σ 26 6) + ((σ 5) (nI x).toNatClampNeg)))) 26 (upd (upd (upd (σ 26) 5 ((σ 26 5) + (1 : Int32))) 6 ((σ 26 6) + ((σ 5) (nI x).toNatClampNeg))) 7 (tv)))) rfl ?_ ?_
            · exact ⟨vp_in_nI (by omega) (by decide), (by rw [h5]; exact vp_in_nI (by omega) (by decide)), (by rw [h5]; exact vp_in_nI (by omega) (by decide)), (by rw [h5]; exact vp_in_nI (by omega) (by decide)), vp_in_nI (by omega) (by decide), htv2⟩
            rw [hrc]
            rw [h5c]
            rw [hxc]
            exact ev_iret rfl rfl nar1 (Or.inl ⟨_, s_in_some hb (by rw [hp, s_plc, hpl]), rfl, FR_put hF hl hs2 (by omega) (by omega) (htv r p) (show σ 26 5 + 1 = _ by rw [h5]) (show σ 26 6 + σ 5 x = _ by rw [hF.2.2.2.1]) rfl rfl rfl rfl rfl, fun c hc => by simp at hc; simp [x_up, hc]⟩)
set_option maxRecDepth 100000 in
theorem c_enter26 (σ : xSg) (n x : Nat) (F : sFl) (hok : aOk (atC σ) n) (hn : σ 1 0 = nI n) (hx : x < n) (hF : FR (atC σ) σ 26 27 28 29 30 F) (hl : F.2.length < 10) : xCtr M_X2_enter [.ref 26, .int (nI x)] σ (eQ (atC σ) 26 27 28 29 30 σ x F) := by
  have hn10 := hok.1
  obtain ⟨hs0, hs1, hs2⟩ := s_sp_ok hok hx
  obtain ⟨hg0, hg1, hg2⟩ := s_long_ok hok
  obtain ⟨hr0, hr1, hr2⟩ := s_rows_ok hok
  have h5 := hF.2.2.1
  have hxc : (nI x).toNatClampNeg = x := nI_clamp (by omega)
  have h5c : (σ 26 5).toNatClampNeg = F.2.length := by rw [h5, nI_clamp (by omega)]
  have h7 := hF.2.2.2.2.1
  have hsh : iSh σ (nI x) := ⟨nI_pos (by omega), by rw [hn]; exact nI_ge hx (by omega), nI_ge (b := 10) (by omega) (by omega)⟩
  refine ctr_ev ok_X2_enter (by decide +kernel) rfl rfl rfl ?_
  show xEv (.inl 2) M_X2_enter _ 0 ([some (.ref 26), some (.int (nI x)), none, none, none, none], [], σ)
  refine ev_blk 3 [] 5 ([some (.ref 26), some (.int (nI x)), none, none, none, none], [.int (nI x), .ref 1], σ) rfl ?_ ?_
  · trivial
  refine ev_callV M_X3_isShip [.int (nI x)] [] 1 rfl rfl ln_X2_59 k_X3_isShip rfl rfl rfl rfl rfl rfl (c_isShip _ _) ?_
  refine pu_k ?_
  show xEv _ _ _ 8 ([some (.ref 26), some (.int (nI x)), none, none, none, none], [.int (zi (iSh σ (nI x)))], σ)
  refine ev_br 0 [] ((zi (iSh σ (nI x))) = 0) 27 11 ([some (.ref 26), some (.int (nI x)), none, none, none, none], [], σ) rfl ?_ (fun c8 => ?_) (fun c8 => ?_)
  · trivial
  · exact absurd hsh (zi_0.mp c8)
  · replace c8 := zi_1.mp c8
    refine ev_br 3 [] ((10 : Int32) ≤ (σ 26 5)) 27 20 ([some (.ref 26), some (.int (nI x)), none, none, none, none], [], σ) rfl ?_ (fun c17 => ?_) (fun c17 => ?_)
    · trivial
    · rw [h5] at c17
      exact absurd c17 (nI_ge (b := 10) hl (by decide))
    · refine ev_br 2 [] ((σ 26 7) = 0) 29 27 ([some (.ref 26), some (.int (nI x)), none, none, none, none], [], σ) rfl ?_ (fun c24 => ?_) (fun c24 => ?_)
      · trivial
      · refine ev_br 6 [vp_in (nI x) 10] (¬ ((σ 2) (nI x).toNatClampNeg) = (5 : Int32)) 46 42 ([some (.ref 26), some (.int (nI x)), none, none, none, none], [], σ) rfl ?_ (fun c39 => ?_) (fun c39 => ?_)
        · exact vp_in_nI (by omega) (by decide)
        · rw [hxc] at c39
          refine ev_br 3 [] ((0 : Int32) = 0) 61 52 ([some (.ref 26), some (.int (nI x)), some (.int ((0 : Int32))), none, none, none], [], σ) rfl ?_ (fun c49 => ?_) (fun c49 => ?_)
          · trivial
          · refine ev_blk 3 [] 66 ([some (.ref 26), some (.int (nI x)), some (.int ((0 : Int32))), none, none, none], [.int (nI x), .ref 1], σ) rfl ?_ ?_
            · trivial
            refine ev_callV M_X3_span [.int (nI x)] [] 1 rfl rfl ln_X2_66 k_X3_span rfl rfl rfl rfl rfl rfl (c_span _ _ ⟨nI_pos (by omega), nI_lt (b := 10) (by omega) (by omega)⟩) ?_
            refine pu_k ?_
            show xEv _ _ _ 69 ([some (.ref 26), some (.int (nI x)), some (.int ((0 : Int32))), none, none, none], [.int (s_span (σ 2) (σ 3) (nI x).toNatClampNeg)], σ)
            rw [(show s_span (σ 2) (σ 3) (nI x).toNatClampNeg = nI (s_sp (atC σ) x) by rw [hxc]; exact hs0)]
            refine ev_blk 3 [] 73 ([some (.ref 26), some (.int (nI x)), some (.int ((0 : Int32))), some (.int (nI (s_sp (atC σ) x))), some (.int ((0 : Int32))), none], [], σ) rfl ?_ ?_
            · trivial
            have hnt : s_tank (atC σ) F.2 = false := by rw [h7] at c24; simpa using zi_0.mp c24
            replace c39 : ¬ aK (atC σ) x = 5 := c39
            refine c_enter26_lp σ n x F hok hn hx hF hl 0 (by simp [s_bar, hnt, c39]) (fun r p => ?_) (Or.inl rfl) _ 0 (by omega) rfl
            cases hw : F.2 with
            | nil => exact (zi_f (by simp [s_tank, c39])).symm
            | cons q t => rw [← hw, s_tank_app (by rw [hw]; simp)]; exact (zi_f (by rw [hnt]; decide)).symm
          · exact absurd rfl c49
        · rw [hxc] at c39
          refine ev_br 4 [] ((1 : Int32) = 0) 61 52 ([some (.ref 26), some (.int (nI x)), some (.int ((1 : Int32))), none, none, none], [], σ) rfl ?_ (fun c49 => ?_) (fun c49 => ?_)
          · trivial
          · exact absurd c49 (by decide)
          · refine ev_br 2 [] ((σ 26 5) ≤ 0) 61 59 ([some (.ref 26), some (.int (nI x)), some (.int ((1 : Int32))), none, none, none], [], σ) rfl ?_ (fun c56 => ?_) (fun c56 => ?_)
            · trivial
            · refine ev_blk 3 [] 66 ([some (.ref 26), some (.int (nI x)), some (.int ((1 : Int32))), none, none, none], [.int (nI x), .ref 1], σ) rfl ?_ ?_
              · trivial
              refine ev_callV M_X3_span [.int (nI x)] [] 1 rfl rfl ln_X2_66 k_X3_span rfl rfl rfl rfl rfl rfl (c_span _ _ ⟨nI_pos (by omega), nI_lt (b := 10) (by omega) (by omega)⟩) ?_
              refine pu_k ?_
              show xEv _ _ _ 69 ([some (.ref 26), some (.int (nI x)), some (.int ((1 : Int32))), none, none, none], [.int (s_span (σ 2) (σ 3) (nI x).toNatClampNeg)], σ)
              rw [(show s_span (σ 2) (σ 3) (nI x).toNatClampNeg = nI (s_sp (atC σ) x) by rw [hxc]; exact hs0)]
              refine ev_blk 3 [] 73 ([some (.ref 26), some (.int (nI x)), some (.int ((1 : Int32))), some (.int (nI (s_sp (atC σ) x))), some (.int ((0 : Int32))), none], [], σ) rfl ?_ ?_
              · trivial
              have hnt : s_tank (atC σ) F.2 = false := by rw [h7] at c24; simpa using zi_0.mp c24
              have c39b : aK (atC σ) x = 5 := Classical.byContradiction c39
              have hw : F.2 = [] := by
                rw [h5] at c56
                cases hw : F.2 with
                | nil => rfl
                | cons q t => rw [hw] at c56 hl; exact absurd c56 (nI_nle (by simp) (by omega))
              refine c_enter26_lp σ n x F hok hn hx hF hl 1 (by simp [s_bar, hw]) (fun r p => ?_) (Or.inr rfl) _ 0 (by omega) rfl
              exact (zi_t (by rw [hw]; simpa [s_tank] using c39b)).symm
            · refine ev_blk 1 [] 60 ([some (.ref 26), some (.int (nI x)), some (.int ((1 : Int32))), none, none, none], [.int ((0 : Int32))], σ) rfl ?_ ?_
              · trivial
              first
              | exact ev_iret rfl rfl nar0 (Or.inr ⟨s_bar_f (by have c39b : aK (atC σ) x = 5 := Classical.byContradiction c39; cases hw : F.2 with | nil => exact absurd (show σ 26 5 ≤ 0 by rw [h5, hw]; decide) c56 | cons q t => simp [s_bar, c39b]), rfl, rfl⟩)
              | exact ev_iret rfl rfl nar0 (Or.inr ⟨s_bar_f (by rw [h7] at c24; have ht := zi_1.mp c24; cases hw : F.2 with | nil => rw [hw] at ht; cases ht | cons q t => rw [hw] at ht; simp [s_bar, ht]), rfl, rfl⟩)
      · refine ev_blk 1 [] 28 ([some (.ref 26), some (.int (nI x)), none, none, none, none], [.int ((0 : Int32))], σ) rfl ?_ ?_
        · trivial
        first
        | exact ev_iret rfl rfl nar0 (Or.inr ⟨s_bar_f (by have c39b : aK (atC σ) x = 5 := Classical.byContradiction c39; cases hw : F.2 with | nil => exact absurd (show σ 26 5 ≤ 0 by rw [h5, hw]; decide) c56 | cons q t => simp [s_bar, c39b]), rfl, rfl⟩)
        | exact ev_iret rfl rfl nar0 (Or.inr ⟨s_bar_f (by rw [h7] at c24; have ht := zi_1.mp c24; cases hw : F.2 with | nil => rw [hw] at ht; cases ht | cons q t => rw [hw] at ht; simp [s_bar, ht]), rfl, rfl⟩)
set_option maxRecDepth 100000 in
theorem c_enter38_lp (σ : xSg) (n x : Nat) (F : sFl) (hok : aOk (atC σ) n) (hn : σ 1 0 = nI n) (hx : x < n) (hF : FR (atC σ) σ 38 39 40 41 42 F) (hl : F.2.length < 10) (tv : Int32) (hb : s_bar (atC σ) x F.2 = false) (htv : ∀ r p, tv = zi (s_tank (atC σ) (F.2 ++ [(x, r, p)]) = true)) (htv2 : tv = 0 ∨ tv = 1) : ∀ (m r : Nat), r + m = s_rows (atC σ) → s_plc (atC σ) F.1 (s_sp (atC σ) x) (s_rows (atC σ)) 0 = s_plc (atC σ) F.1 (s_sp (atC σ) x) m r → xEv (.inl 2) M_X2_enter (eQ (atC σ) 38 39 40 41 42 σ x F) 73 ([some (.ref 38), some (.int (nI x)), some (.int (tv)), some (.int (nI (s_sp (atC σ) x))), some (.int (nI r)), none], [], σ) := by
  have hn10 := hok.1
  obtain ⟨hs0, hs1, hs2⟩ := s_sp_ok hok hx
  obtain ⟨hg0, hg1, hg2⟩ := s_long_ok hok
  obtain ⟨hr0, hr1, hr2⟩ := s_rows_ok hok
  have h5 := hF.2.2.1
  have hxc : (nI x).toNatClampNeg = x := nI_clamp (by omega)
  have h5c : (σ 38 5).toNatClampNeg = F.2.length := by rw [h5, nI_clamp (by omega)]
  intro m
  induction m with
  | zero =>
    intro r hm hp
    refine ev_br 6 [vp_in ((1 : Int32)) 5] (((σ 9) 1) ≤ (nI r)) 203 87 ([some (.ref 38), some (.int (nI x)), some (.int (tv)), some (.int (nI (s_sp (atC σ) x))), some (.int (nI r)), none], [], σ) rfl ?_ (fun c84 => ?_) (fun c84 => ?_)
    · exact vp_in_nI (n := 1) (by decide) (by decide)
    · refine ev_blk 1 [] 204 ([some (.ref 38), some (.int (nI x)), some (.int (tv)), some (.int (nI (s_sp (atC σ) x))), some (.int (nI r)), none], [.int ((0 : Int32))], σ) rfl ?_ ?_
      · trivial
      exact ev_iret rfl rfl nar0 (Or.inr ⟨s_in_none hp, rfl, rfl⟩)
    · exact absurd (show aS (atC σ) 1 ≤ nI r by rw [hr0]; exact (nI_leI (by omega) (by omega)).mpr (by omega)) c84
  | succ m ih =>
    intro r hm hp
    have hrc : (nI r).toNatClampNeg = r := nI_clamp (by omega)
    refine ev_br 6 [vp_in ((1 : Int32)) 5] (((σ 9) 1) ≤ (nI r)) 203 87 ([some (.ref 38), some (.int (nI x)), some (.int (tv)), some (.int (nI (s_sp (atC σ) x))), some (.int (nI r)), none], [], σ) rfl ?_ (fun c84 => ?_) (fun c84 => ?_)
    · exact vp_in_nI (n := 1) (by decide) (by decide)
    · exact absurd ((nI_leI (by omega) (by omega)).mp (show nI (s_rows (atC σ)) ≤ nI r by rw [← hr0]; exact c84)) (by omega)
    · refine ev_br 2 [] ((3 : Int32) ≤ (nI r)) 203 93 ([some (.ref 38), some (.int (nI x)), some (.int (tv)), some (.int (nI (s_sp (atC σ) x))), some (.int (nI r)), none], [], σ) rfl ?_ (fun c90 => ?_) (fun c90 => ?_)
      · trivial
      · exact absurd ((nI_leI (a := 3) (by omega) (by omega)).mp c90) (by omega)
      · refine ev_blk 6 [vp_in (nI r) 3] 102 ([some (.ref 38), some (.int (nI x)), some (.int (tv)), some (.int (nI (s_sp (atC σ) x))), some (.int (nI r)), none], [.int (nI (s_sp (atC σ) x)), .int ((σ 39) (nI r).toNatClampNeg), .ref 38], σ) rfl ?_ ?_
        · exact vp_in_nI (by omega) (by decide)
        rw [hrc]
        refine ev_callV M_X2_firstRun [.int ((σ 39) r), .int (nI (s_sp (atC σ) x))] [] 38 rfl rfl ln_X2_70 k_X2_firstRun rfl rfl rfl rfl rfl rfl (c_firstRun38 σ _ F.1 (s_sp (atC σ) x) (s_long (atC σ)) r hg0 hg2 hs1 hs2 (fun q hq => hF.2.1 r q (by omega) hq)) ?_
        refine pu_k ?_
        cases hpl : s_plr F.1 (s_sp (atC σ) x) r (s_long (atC σ) + 1 - s_sp (atC σ) x) 0 with
        | none =>
          show xEv _ _ _ 105 ([some (.ref 38), some (.int (nI x)), some (.int (tv)), some (.int (nI (s_sp (atC σ) x))), some (.int (nI r)), none], [.int ((-1 : Int32))], σ)
          refine ev_br 3 [] ((-1 : Int32) = (-1 : Int32)) 197 113 ([some (.ref 38), some (.int (nI x)), some (.int (tv)), some (.int (nI (s_sp (atC σ) x))), some (.int (nI r)), some (.int ((-1 : Int32)))], [], σ) rfl ?_ (fun c110 => ?_) (fun c110 => ?_)
          · trivial
          · refine ev_blk 2 [] 73 ([some (.ref 38), some (.int (nI x)), some (.int (tv)), some (.int (nI (s_sp (atC σ) x))), some (.int ((nI r) + (1 : Int32))), some (.int ((-1 : Int32)))], [], σ) rfl ?_ ?_
            · trivial
            rw [nI_1]
            refine ev_drop 5 ?_
            exact ih (r + 1) (by omega) (by rw [hp, s_plc, hpl])
          · exact absurd rfl c110
        | some p =>
          obtain ⟨hp1, hp2, hp3⟩ := s_plr_some hpl
          show xEv _ _ _ 105 ([some (.ref 38), some (.int (nI x)), some (.int (tv)), some (.int (nI (s_sp (atC σ) x))), some (.int (nI r)), none], [.int (nI p)], σ)
          refine ev_br 3 [] ((nI p) = (-1 : Int32)) 197 113 ([some (.ref 38), some (.int (nI x)), some (.int (tv)), some (.int (nI (s_sp (atC σ) x))), some (.int (nI r)), some (.int (nI p))], [], σ) rfl ?_ (fun c110 => ?_) (fun c110 => ?_)
          · trivial
          · exact absurd c110 (nI_m1 (by omega))
          · refine ev_blk 6 [vp_in (nI r) 3] 122 ([some (.ref 38), some (.int (nI x)), some (.int (tv)), some (.int (nI (s_sp (atC σ) x))), some (.int (nI r)), some (.int (nI p))], [.int (nI (s_sp (atC σ) x)), .int ((σ 39) (nI r).toNatClampNeg), .int (nI r), .ref 39], σ) rfl ?_ ?_
            · exact vp_in_nI (by omega) (by decide)
            rw [hrc]
            refine ev_callS M_X2_run [.int (nI (s_sp (atC σ) x))] [.int ((σ 39) r), .int (nI r), .ref 39] rfl rfl ln_X2_73 k_X2_run rfl rfl rfl (c_run _ _) ?_
            refine pu_k ?_
            show xEv _ _ _ 125 ([some (.ref 38), some (.int (nI x)), some (.int (tv)), some (.int (nI (s_sp (atC σ) x))), some (.int (nI r)), some (.int (nI p))], [.int ((1 : Int32) <<< ((nI (s_sp (atC σ) x)) &&& 31) - 1), .int ((σ 39) r), .int (nI r), .ref 39], σ)
            refine ev_blk 42 [vp_in (nI r) 3, vp_in ((σ 38 5)) 10, vp_in ((σ 38 5)) 10, vp_in ((σ 38 5)) 10, vp_in (nI x) 10, tv = 0 ∨ tv = 1] 196 ([some (.ref 38), some (.int (nI x)), some (.int (tv)), some (.int (nI (s_sp (atC σ) x))), some (.int (nI r)), some (.int (nI p))], [.int ((1 : Int32))], (x_up (x_up (x_up (x_up (x_up (x_up (x_up σ 39 (upd (σ 39) (nI r).toNatClampNeg (((σ 39) r) ||| (((1 : Int32) <<< ((nI (s_sp (atC σ) x)) &&& 31) - 1) <<< ((nI p) &&& 31))))) 40 (upd (σ 40) (σ 38 5).toNatClampNeg (nI x))) 41 (upd (σ 41) (σ 38 5).toNatClampNeg (nI r))) 42 (upd (σ 42) (σ 38 5).toNatClampNeg (nI p))) 38 (upd (σ 38) 5 ((σ 38 5) + (1 : Int32)))) 38 (upd (upd (σ 38) 5 ((σ 38 5) + (1 : Int32))) 6 ((σ 38 6) + ((σ 5) (nI x).toNatClampNeg)))) 38 (upd (upd (upd (σ 38) 5 ((σ 38 5) + (1 : Int32))) 6 ((σ 38 6) + ((σ 5) (nI x).toNatClampNeg))) 7 (tv)))) rfl ?_ ?_
            · exact ⟨vp_in_nI (by omega) (by decide), (by rw [h5]; exact vp_in_nI (by omega) (by decide)), (by rw [h5]; exact vp_in_nI (by omega) (by decide)), (by rw [h5]; exact vp_in_nI (by omega) (by decide)), vp_in_nI (by omega) (by decide), htv2⟩
            rw [hrc]
            rw [h5c]
            rw [hxc]
            exact ev_iret rfl rfl nar1 (Or.inl ⟨_, s_in_some hb (by rw [hp, s_plc, hpl]), rfl, FR_put hF hl hs2 (by omega) (by omega) (htv r p) (show σ 38 5 + 1 = _ by rw [h5]) (show σ 38 6 + σ 5 x = _ by rw [hF.2.2.2.1]) rfl rfl rfl rfl rfl, fun c hc => by simp at hc; simp [x_up, hc]⟩)
set_option maxRecDepth 100000 in
theorem c_enter38 (σ : xSg) (n x : Nat) (F : sFl) (hok : aOk (atC σ) n) (hn : σ 1 0 = nI n) (hx : x < n) (hF : FR (atC σ) σ 38 39 40 41 42 F) (hl : F.2.length < 10) : xCtr M_X2_enter [.ref 38, .int (nI x)] σ (eQ (atC σ) 38 39 40 41 42 σ x F) := by
  have hn10 := hok.1
  obtain ⟨hs0, hs1, hs2⟩ := s_sp_ok hok hx
  obtain ⟨hg0, hg1, hg2⟩ := s_long_ok hok
  obtain ⟨hr0, hr1, hr2⟩ := s_rows_ok hok
  have h5 := hF.2.2.1
  have hxc : (nI x).toNatClampNeg = x := nI_clamp (by omega)
  have h5c : (σ 38 5).toNatClampNeg = F.2.length := by rw [h5, nI_clamp (by omega)]
  have h7 := hF.2.2.2.2.1
  have hsh : iSh σ (nI x) := ⟨nI_pos (by omega), by rw [hn]; exact nI_ge hx (by omega), nI_ge (b := 10) (by omega) (by omega)⟩
  refine ctr_ev ok_X2_enter (by decide +kernel) rfl rfl rfl ?_
  show xEv (.inl 2) M_X2_enter _ 0 ([some (.ref 38), some (.int (nI x)), none, none, none, none], [], σ)
  refine ev_blk 3 [] 5 ([some (.ref 38), some (.int (nI x)), none, none, none, none], [.int (nI x), .ref 1], σ) rfl ?_ ?_
  · trivial
  refine ev_callV M_X3_isShip [.int (nI x)] [] 1 rfl rfl ln_X2_59 k_X3_isShip rfl rfl rfl rfl rfl rfl (c_isShip _ _) ?_
  refine pu_k ?_
  show xEv _ _ _ 8 ([some (.ref 38), some (.int (nI x)), none, none, none, none], [.int (zi (iSh σ (nI x)))], σ)
  refine ev_br 0 [] ((zi (iSh σ (nI x))) = 0) 27 11 ([some (.ref 38), some (.int (nI x)), none, none, none, none], [], σ) rfl ?_ (fun c8 => ?_) (fun c8 => ?_)
  · trivial
  · exact absurd hsh (zi_0.mp c8)
  · replace c8 := zi_1.mp c8
    refine ev_br 3 [] ((10 : Int32) ≤ (σ 38 5)) 27 20 ([some (.ref 38), some (.int (nI x)), none, none, none, none], [], σ) rfl ?_ (fun c17 => ?_) (fun c17 => ?_)
    · trivial
    · rw [h5] at c17
      exact absurd c17 (nI_ge (b := 10) hl (by decide))
    · refine ev_br 2 [] ((σ 38 7) = 0) 29 27 ([some (.ref 38), some (.int (nI x)), none, none, none, none], [], σ) rfl ?_ (fun c24 => ?_) (fun c24 => ?_)
      · trivial
      · refine ev_br 6 [vp_in (nI x) 10] (¬ ((σ 2) (nI x).toNatClampNeg) = (5 : Int32)) 46 42 ([some (.ref 38), some (.int (nI x)), none, none, none, none], [], σ) rfl ?_ (fun c39 => ?_) (fun c39 => ?_)
        · exact vp_in_nI (by omega) (by decide)
        · rw [hxc] at c39
          refine ev_br 3 [] ((0 : Int32) = 0) 61 52 ([some (.ref 38), some (.int (nI x)), some (.int ((0 : Int32))), none, none, none], [], σ) rfl ?_ (fun c49 => ?_) (fun c49 => ?_)
          · trivial
          · refine ev_blk 3 [] 66 ([some (.ref 38), some (.int (nI x)), some (.int ((0 : Int32))), none, none, none], [.int (nI x), .ref 1], σ) rfl ?_ ?_
            · trivial
            refine ev_callV M_X3_span [.int (nI x)] [] 1 rfl rfl ln_X2_66 k_X3_span rfl rfl rfl rfl rfl rfl (c_span _ _ ⟨nI_pos (by omega), nI_lt (b := 10) (by omega) (by omega)⟩) ?_
            refine pu_k ?_
            show xEv _ _ _ 69 ([some (.ref 38), some (.int (nI x)), some (.int ((0 : Int32))), none, none, none], [.int (s_span (σ 2) (σ 3) (nI x).toNatClampNeg)], σ)
            rw [(show s_span (σ 2) (σ 3) (nI x).toNatClampNeg = nI (s_sp (atC σ) x) by rw [hxc]; exact hs0)]
            refine ev_blk 3 [] 73 ([some (.ref 38), some (.int (nI x)), some (.int ((0 : Int32))), some (.int (nI (s_sp (atC σ) x))), some (.int ((0 : Int32))), none], [], σ) rfl ?_ ?_
            · trivial
            have hnt : s_tank (atC σ) F.2 = false := by rw [h7] at c24; simpa using zi_0.mp c24
            replace c39 : ¬ aK (atC σ) x = 5 := c39
            refine c_enter38_lp σ n x F hok hn hx hF hl 0 (by simp [s_bar, hnt, c39]) (fun r p => ?_) (Or.inl rfl) _ 0 (by omega) rfl
            cases hw : F.2 with
            | nil => exact (zi_f (by simp [s_tank, c39])).symm
            | cons q t => rw [← hw, s_tank_app (by rw [hw]; simp)]; exact (zi_f (by rw [hnt]; decide)).symm
          · exact absurd rfl c49
        · rw [hxc] at c39
          refine ev_br 4 [] ((1 : Int32) = 0) 61 52 ([some (.ref 38), some (.int (nI x)), some (.int ((1 : Int32))), none, none, none], [], σ) rfl ?_ (fun c49 => ?_) (fun c49 => ?_)
          · trivial
          · exact absurd c49 (by decide)
          · refine ev_br 2 [] ((σ 38 5) ≤ 0) 61 59 ([some (.ref 38), some (.int (nI x)), some (.int ((1 : Int32))), none, none, none], [], σ) rfl ?_ (fun c56 => ?_) (fun c56 => ?_)
            · trivial
            · refine ev_blk 3 [] 66 ([some (.ref 38), some (.int (nI x)), some (.int ((1 : Int32))), none, none, none], [.int (nI x), .ref 1], σ) rfl ?_ ?_
              · trivial
              refine ev_callV M_X3_span [.int (nI x)] [] 1 rfl rfl ln_X2_66 k_X3_span rfl rfl rfl rfl rfl rfl (c_span _ _ ⟨nI_pos (by omega), nI_lt (b := 10) (by omega) (by omega)⟩) ?_
              refine pu_k ?_
              show xEv _ _ _ 69 ([some (.ref 38), some (.int (nI x)), some (.int ((1 : Int32))), none, none, none], [.int (s_span (σ 2) (σ 3) (nI x).toNatClampNeg)], σ)
              rw [(show s_span (σ 2) (σ 3) (nI x).toNatClampNeg = nI (s_sp (atC σ) x) by rw [hxc]; exact hs0)]
              refine ev_blk 3 [] 73 ([some (.ref 38), some (.int (nI x)), some (.int ((1 : Int32))), some (.int (nI (s_sp (atC σ) x))), some (.int ((0 : Int32))), none], [], σ) rfl ?_ ?_
              · trivial
              have hnt : s_tank (atC σ) F.2 = false := by rw [h7] at c24; simpa using zi_0.mp c24
              have c39b : aK (atC σ) x = 5 := Classical.byContradiction c39
              have hw : F.2 = [] := by
                rw [h5] at c56
                cases hw : F.2 with
                | nil => rfl
                | cons q t => rw [hw] at c56 hl; exact absurd c56 (nI_nle (by simp) (by omega))
              refine c_enter38_lp σ n x F hok hn hx hF hl 1 (by simp [s_bar, hw]) (fun r p => ?_) (Or.inr rfl) _ 0 (by omega) rfl
              exact (zi_t (by rw [hw]; simpa [s_tank] using c39b)).symm
            · refine ev_blk 1 [] 60 ([some (.ref 38), some (.int (nI x)), some (.int ((1 : Int32))), none, none, none], [.int ((0 : Int32))], σ) rfl ?_ ?_
              · trivial
              first
              | exact ev_iret rfl rfl nar0 (Or.inr ⟨s_bar_f (by have c39b : aK (atC σ) x = 5 := Classical.byContradiction c39; cases hw : F.2 with | nil => exact absurd (show σ 38 5 ≤ 0 by rw [h5, hw]; decide) c56 | cons q t => simp [s_bar, c39b]), rfl, rfl⟩)
              | exact ev_iret rfl rfl nar0 (Or.inr ⟨s_bar_f (by rw [h7] at c24; have ht := zi_1.mp c24; cases hw : F.2 with | nil => rw [hw] at ht; cases ht | cons q t => rw [hw] at ht; simp [s_bar, ht]), rfl, rfl⟩)
      · refine ev_blk 1 [] 28 ([some (.ref 38), some (.int (nI x)), none, none, none, none], [.int ((0 : Int32))], σ) rfl ?_ ?_
        · trivial
        first
        | exact ev_iret rfl rfl nar0 (Or.inr ⟨s_bar_f (by have c39b : aK (atC σ) x = 5 := Classical.byContradiction c39; cases hw : F.2 with | nil => exact absurd (show σ 38 5 ≤ 0 by rw [h5, hw]; decide) c56 | cons q t => simp [s_bar, c39b]), rfl, rfl⟩)
        | exact ev_iret rfl rfl nar0 (Or.inr ⟨s_bar_f (by rw [h7] at c24; have ht := zi_1.mp c24; cases hw : F.2 with | nil => rw [hw] at ht; cases ht | cons q t => rw [hw] at ht; simp [s_bar, ht]), rfl, rfl⟩)
set_option maxRecDepth 100000 in
theorem c_enter43_lp (σ : xSg) (n x : Nat) (F : sFl) (hok : aOk (atC σ) n) (hn : σ 1 0 = nI n) (hx : x < n) (hF : FR (atC σ) σ 43 44 45 46 47 F) (hl : F.2.length < 10) (tv : Int32) (hb : s_bar (atC σ) x F.2 = false) (htv : ∀ r p, tv = zi (s_tank (atC σ) (F.2 ++ [(x, r, p)]) = true)) (htv2 : tv = 0 ∨ tv = 1) : ∀ (m r : Nat), r + m = s_rows (atC σ) → s_plc (atC σ) F.1 (s_sp (atC σ) x) (s_rows (atC σ)) 0 = s_plc (atC σ) F.1 (s_sp (atC σ) x) m r → xEv (.inl 2) M_X2_enter (eQ (atC σ) 43 44 45 46 47 σ x F) 73 ([some (.ref 43), some (.int (nI x)), some (.int (tv)), some (.int (nI (s_sp (atC σ) x))), some (.int (nI r)), none], [], σ) := by
  have hn10 := hok.1
  obtain ⟨hs0, hs1, hs2⟩ := s_sp_ok hok hx
  obtain ⟨hg0, hg1, hg2⟩ := s_long_ok hok
  obtain ⟨hr0, hr1, hr2⟩ := s_rows_ok hok
  have h5 := hF.2.2.1
  have hxc : (nI x).toNatClampNeg = x := nI_clamp (by omega)
  have h5c : (σ 43 5).toNatClampNeg = F.2.length := by rw [h5, nI_clamp (by omega)]
  intro m
  induction m with
  | zero =>
    intro r hm hp
    refine ev_br 6 [vp_in ((1 : Int32)) 5] (((σ 9) 1) ≤ (nI r)) 203 87 ([some (.ref 43), some (.int (nI x)), some (.int (tv)), some (.int (nI (s_sp (atC σ) x))), some (.int (nI r)), none], [], σ) rfl ?_ (fun c84 => ?_) (fun c84 => ?_)
    · exact vp_in_nI (n := 1) (by decide) (by decide)
    · refine ev_blk 1 [] 204 ([some (.ref 43), some (.int (nI x)), some (.int (tv)), some (.int (nI (s_sp (atC σ) x))), some (.int (nI r)), none], [.int ((0 : Int32))], σ) rfl ?_ ?_
      · trivial
      exact ev_iret rfl rfl nar0 (Or.inr ⟨s_in_none hp, rfl, rfl⟩)
    · exact absurd (show aS (atC σ) 1 ≤ nI r by rw [hr0]; exact (nI_leI (by omega) (by omega)).mpr (by omega)) c84
  | succ m ih =>
    intro r hm hp
    have hrc : (nI r).toNatClampNeg = r := nI_clamp (by omega)
    refine ev_br 6 [vp_in ((1 : Int32)) 5] (((σ 9) 1) ≤ (nI r)) 203 87 ([some (.ref 43), some (.int (nI x)), some (.int (tv)), some (.int (nI (s_sp (atC σ) x))), some (.int (nI r)), none], [], σ) rfl ?_ (fun c84 => ?_) (fun c84 => ?_)
    · exact vp_in_nI (n := 1) (by decide) (by decide)
    · exact absurd ((nI_leI (by omega) (by omega)).mp (show nI (s_rows (atC σ)) ≤ nI r by rw [← hr0]; exact c84)) (by omega)
    · refine ev_br 2 [] ((3 : Int32) ≤ (nI r)) 203 93 ([some (.ref 43), some (.int (nI x)), some (.int (tv)), some (.int (nI (s_sp (atC σ) x))), some (.int (nI r)), none], [], σ) rfl ?_ (fun c90 => ?_) (fun c90 => ?_)
      · trivial
      · exact absurd ((nI_leI (a := 3) (by omega) (by omega)).mp c90) (by omega)
      · refine ev_blk 6 [vp_in (nI r) 3] 102 ([some (.ref 43), some (.int (nI x)), some (.int (tv)), some (.int (nI (s_sp (atC σ) x))), some (.int (nI r)), none], [.int (nI (s_sp (atC σ) x)), .int ((σ 44) (nI r).toNatClampNeg), .ref 43], σ) rfl ?_ ?_
        · exact vp_in_nI (by omega) (by decide)
        rw [hrc]
        refine ev_callV M_X2_firstRun [.int ((σ 44) r), .int (nI (s_sp (atC σ) x))] [] 43 rfl rfl ln_X2_70 k_X2_firstRun rfl rfl rfl rfl rfl rfl (c_firstRun43 σ _ F.1 (s_sp (atC σ) x) (s_long (atC σ)) r hg0 hg2 hs1 hs2 (fun q hq => hF.2.1 r q (by omega) hq)) ?_
        refine pu_k ?_
        cases hpl : s_plr F.1 (s_sp (atC σ) x) r (s_long (atC σ) + 1 - s_sp (atC σ) x) 0 with
        | none =>
          show xEv _ _ _ 105 ([some (.ref 43), some (.int (nI x)), some (.int (tv)), some (.int (nI (s_sp (atC σ) x))), some (.int (nI r)), none], [.int ((-1 : Int32))], σ)
          refine ev_br 3 [] ((-1 : Int32) = (-1 : Int32)) 197 113 ([some (.ref 43), some (.int (nI x)), some (.int (tv)), some (.int (nI (s_sp (atC σ) x))), some (.int (nI r)), some (.int ((-1 : Int32)))], [], σ) rfl ?_ (fun c110 => ?_) (fun c110 => ?_)
          · trivial
          · refine ev_blk 2 [] 73 ([some (.ref 43), some (.int (nI x)), some (.int (tv)), some (.int (nI (s_sp (atC σ) x))), some (.int ((nI r) + (1 : Int32))), some (.int ((-1 : Int32)))], [], σ) rfl ?_ ?_
            · trivial
            rw [nI_1]
            refine ev_drop 5 ?_
            exact ih (r + 1) (by omega) (by rw [hp, s_plc, hpl])
          · exact absurd rfl c110
        | some p =>
          obtain ⟨hp1, hp2, hp3⟩ := s_plr_some hpl
          show xEv _ _ _ 105 ([some (.ref 43), some (.int (nI x)), some (.int (tv)), some (.int (nI (s_sp (atC σ) x))), some (.int (nI r)), none], [.int (nI p)], σ)
          refine ev_br 3 [] ((nI p) = (-1 : Int32)) 197 113 ([some (.ref 43), some (.int (nI x)), some (.int (tv)), some (.int (nI (s_sp (atC σ) x))), some (.int (nI r)), some (.int (nI p))], [], σ) rfl ?_ (fun c110 => ?_) (fun c110 => ?_)
          · trivial
          · exact absurd c110 (nI_m1 (by omega))
          · refine ev_blk 6 [vp_in (nI r) 3] 122 ([some (.ref 43), some (.int (nI x)), some (.int (tv)), some (.int (nI (s_sp (atC σ) x))), some (.int (nI r)), some (.int (nI p))], [.int (nI (s_sp (atC σ) x)), .int ((σ 44) (nI r).toNatClampNeg), .int (nI r), .ref 44], σ) rfl ?_ ?_
            · exact vp_in_nI (by omega) (by decide)
            rw [hrc]
            refine ev_callS M_X2_run [.int (nI (s_sp (atC σ) x))] [.int ((σ 44) r), .int (nI r), .ref 44] rfl rfl ln_X2_73 k_X2_run rfl rfl rfl (c_run _ _) ?_
            refine pu_k ?_
            show xEv _ _ _ 125 ([some (.ref 43), some (.int (nI x)), some (.int (tv)), some (.int (nI (s_sp (atC σ) x))), some (.int (nI r)), some (.int (nI p))], [.int ((1 : Int32) <<< ((nI (s_sp (atC σ) x)) &&& 31) - 1), .int ((σ 44) r), .int (nI r), .ref 44], σ)
            refine ev_blk 42 [vp_in (nI r) 3, vp_in ((σ 43 5)) 10, vp_in ((σ 43 5)) 10, vp_in ((σ 43 5)) 10, vp_in (nI x) 10, tv = 0 ∨ tv = 1] 196 ([some (.ref 43), some (.int (nI x)), some (.int (tv)), some (.int (nI (s_sp (atC σ) x))), some (.int (nI r)), some (.int (nI p))], [.int ((1 : Int32))], (x_up (x_up (x_up (x_up (x_up (x_up (x_up σ 44 (upd (σ 44) (nI r).toNatClampNeg (((σ 44) r) ||| (((1 : Int32) <<< ((nI (s_sp (atC σ) x)) &&& 31) - 1) <<< ((nI p) &&& 31))))) 45 (upd (σ 45) (σ 43 5).toNatClampNeg (nI x))) 46 (upd (σ 46) (σ 43 5).toNatClampNeg (nI r))) 47 (upd (σ 47) (σ 43 5).toNatClampNeg (nI p))) 43 (upd (σ 43) 5 ((σ 43 5) + (1 : Int32)))) 43 (upd (upd (σ 43) 5 ((σ 43 5) + (1 : Int32))) 6 ((σ 43 6) + ((σ 5) (nI x).toNatClampNeg)))) 43 (upd (upd (upd (σ 43) 5 ((σ 43 5) + (1 : Int32))) 6 ((σ 43 6) + ((σ 5) (nI x).toNatClampNeg))) 7 (tv)))) rfl ?_ ?_
            · exact ⟨vp_in_nI (by omega) (by decide), (by rw [h5]; exact vp_in_nI (by omega) (by decide)), (by rw [h5]; exact vp_in_nI (by omega) (by decide)), (by rw [h5]; exact vp_in_nI (by omega) (by decide)), vp_in_nI (by omega) (by decide), htv2⟩
            rw [hrc]
            rw [h5c]
            rw [hxc]
            exact ev_iret rfl rfl nar1 (Or.inl ⟨_, s_in_some hb (by rw [hp, s_plc, hpl]), rfl, FR_put hF hl hs2 (by omega) (by omega) (htv r p) (show σ 43 5 + 1 = _ by rw [h5]) (show σ 43 6 + σ 5 x = _ by rw [hF.2.2.2.1]) rfl rfl rfl rfl rfl, fun c hc => by simp at hc; simp [x_up, hc]⟩)
set_option maxRecDepth 100000 in
theorem c_enter43 (σ : xSg) (n x : Nat) (F : sFl) (hok : aOk (atC σ) n) (hn : σ 1 0 = nI n) (hx : x < n) (hF : FR (atC σ) σ 43 44 45 46 47 F) (hl : F.2.length < 10) : xCtr M_X2_enter [.ref 43, .int (nI x)] σ (eQ (atC σ) 43 44 45 46 47 σ x F) := by
  have hn10 := hok.1
  obtain ⟨hs0, hs1, hs2⟩ := s_sp_ok hok hx
  obtain ⟨hg0, hg1, hg2⟩ := s_long_ok hok
  obtain ⟨hr0, hr1, hr2⟩ := s_rows_ok hok
  have h5 := hF.2.2.1
  have hxc : (nI x).toNatClampNeg = x := nI_clamp (by omega)
  have h5c : (σ 43 5).toNatClampNeg = F.2.length := by rw [h5, nI_clamp (by omega)]
  have h7 := hF.2.2.2.2.1
  have hsh : iSh σ (nI x) := ⟨nI_pos (by omega), by rw [hn]; exact nI_ge hx (by omega), nI_ge (b := 10) (by omega) (by omega)⟩
  refine ctr_ev ok_X2_enter (by decide +kernel) rfl rfl rfl ?_
  show xEv (.inl 2) M_X2_enter _ 0 ([some (.ref 43), some (.int (nI x)), none, none, none, none], [], σ)
  refine ev_blk 3 [] 5 ([some (.ref 43), some (.int (nI x)), none, none, none, none], [.int (nI x), .ref 1], σ) rfl ?_ ?_
  · trivial
  refine ev_callV M_X3_isShip [.int (nI x)] [] 1 rfl rfl ln_X2_59 k_X3_isShip rfl rfl rfl rfl rfl rfl (c_isShip _ _) ?_
  refine pu_k ?_
  show xEv _ _ _ 8 ([some (.ref 43), some (.int (nI x)), none, none, none, none], [.int (zi (iSh σ (nI x)))], σ)
  refine ev_br 0 [] ((zi (iSh σ (nI x))) = 0) 27 11 ([some (.ref 43), some (.int (nI x)), none, none, none, none], [], σ) rfl ?_ (fun c8 => ?_) (fun c8 => ?_)
  · trivial
  · exact absurd hsh (zi_0.mp c8)
  · replace c8 := zi_1.mp c8
    refine ev_br 3 [] ((10 : Int32) ≤ (σ 43 5)) 27 20 ([some (.ref 43), some (.int (nI x)), none, none, none, none], [], σ) rfl ?_ (fun c17 => ?_) (fun c17 => ?_)
    · trivial
    · rw [h5] at c17
      exact absurd c17 (nI_ge (b := 10) hl (by decide))
    · refine ev_br 2 [] ((σ 43 7) = 0) 29 27 ([some (.ref 43), some (.int (nI x)), none, none, none, none], [], σ) rfl ?_ (fun c24 => ?_) (fun c24 => ?_)
      · trivial
      · refine ev_br 6 [vp_in (nI x) 10] (¬ ((σ 2) (nI x).toNatClampNeg) = (5 : Int32)) 46 42 ([some (.ref 43), some (.int (nI x)), none, none, none, none], [], σ) rfl ?_ (fun c39 => ?_) (fun c39 => ?_)
        · exact vp_in_nI (by omega) (by decide)
        · rw [hxc] at c39
          refine ev_br 3 [] ((0 : Int32) = 0) 61 52 ([some (.ref 43), some (.int (nI x)), some (.int ((0 : Int32))), none, none, none], [], σ) rfl ?_ (fun c49 => ?_) (fun c49 => ?_)
          · trivial
          · refine ev_blk 3 [] 66 ([some (.ref 43), some (.int (nI x)), some (.int ((0 : Int32))), none, none, none], [.int (nI x), .ref 1], σ) rfl ?_ ?_
            · trivial
            refine ev_callV M_X3_span [.int (nI x)] [] 1 rfl rfl ln_X2_66 k_X3_span rfl rfl rfl rfl rfl rfl (c_span _ _ ⟨nI_pos (by omega), nI_lt (b := 10) (by omega) (by omega)⟩) ?_
            refine pu_k ?_
            show xEv _ _ _ 69 ([some (.ref 43), some (.int (nI x)), some (.int ((0 : Int32))), none, none, none], [.int (s_span (σ 2) (σ 3) (nI x).toNatClampNeg)], σ)
            rw [(show s_span (σ 2) (σ 3) (nI x).toNatClampNeg = nI (s_sp (atC σ) x) by rw [hxc]; exact hs0)]
            refine ev_blk 3 [] 73 ([some (.ref 43), some (.int (nI x)), some (.int ((0 : Int32))), some (.int (nI (s_sp (atC σ) x))), some (.int ((0 : Int32))), none], [], σ) rfl ?_ ?_
            · trivial
            have hnt : s_tank (atC σ) F.2 = false := by rw [h7] at c24; simpa using zi_0.mp c24
            replace c39 : ¬ aK (atC σ) x = 5 := c39
            refine c_enter43_lp σ n x F hok hn hx hF hl 0 (by simp [s_bar, hnt, c39]) (fun r p => ?_) (Or.inl rfl) _ 0 (by omega) rfl
            cases hw : F.2 with
            | nil => exact (zi_f (by simp [s_tank, c39])).symm
            | cons q t => rw [← hw, s_tank_app (by rw [hw]; simp)]; exact (zi_f (by rw [hnt]; decide)).symm
          · exact absurd rfl c49
        · rw [hxc] at c39
          refine ev_br 4 [] ((1 : Int32) = 0) 61 52 ([some (.ref 43), some (.int (nI x)), some (.int ((1 : Int32))), none, none, none], [], σ) rfl ?_ (fun c49 => ?_) (fun c49 => ?_)
          · trivial
          · exact absurd c49 (by decide)
          · refine ev_br 2 [] ((σ 43 5) ≤ 0) 61 59 ([some (.ref 43), some (.int (nI x)), some (.int ((1 : Int32))), none, none, none], [], σ) rfl ?_ (fun c56 => ?_) (fun c56 => ?_)
            · trivial
            · refine ev_blk 3 [] 66 ([some (.ref 43), some (.int (nI x)), some (.int ((1 : Int32))), none, none, none], [.int (nI x), .ref 1], σ) rfl ?_ ?_
              · trivial
              refine ev_callV M_X3_span [.int (nI x)] [] 1 rfl rfl ln_X2_66 k_X3_span rfl rfl rfl rfl rfl rfl (c_span _ _ ⟨nI_pos (by omega), nI_lt (b := 10) (by omega) (by omega)⟩) ?_
              refine pu_k ?_
              show xEv _ _ _ 69 ([some (.ref 43), some (.int (nI x)), some (.int ((1 : Int32))), none, none, none], [.int (s_span (σ 2) (σ 3) (nI x).toNatClampNeg)], σ)
              rw [(show s_span (σ 2) (σ 3) (nI x).toNatClampNeg = nI (s_sp (atC σ) x) by rw [hxc]; exact hs0)]
              refine ev_blk 3 [] 73 ([some (.ref 43), some (.int (nI x)), some (.int ((1 : Int32))), some (.int (nI (s_sp (atC σ) x))), some (.int ((0 : Int32))), none], [], σ) rfl ?_ ?_
              · trivial
              have hnt : s_tank (atC σ) F.2 = false := by rw [h7] at c24; simpa using zi_0.mp c24
              have c39b : aK (atC σ) x = 5 := Classical.byContradiction c39
              have hw : F.2 = [] := by
                rw [h5] at c56
                cases hw : F.2 with
                | nil => rfl
                | cons q t => rw [hw] at c56 hl; exact absurd c56 (nI_nle (by simp) (by omega))
              refine c_enter43_lp σ n x F hok hn hx hF hl 1 (by simp [s_bar, hw]) (fun r p => ?_) (Or.inr rfl) _ 0 (by omega) rfl
              exact (zi_t (by rw [hw]; simpa [s_tank] using c39b)).symm
            · refine ev_blk 1 [] 60 ([some (.ref 43), some (.int (nI x)), some (.int ((1 : Int32))), none, none, none], [.int ((0 : Int32))], σ) rfl ?_ ?_
              · trivial
              first
              | exact ev_iret rfl rfl nar0 (Or.inr ⟨s_bar_f (by have c39b : aK (atC σ) x = 5 := Classical.byContradiction c39; cases hw : F.2 with | nil => exact absurd (show σ 43 5 ≤ 0 by rw [h5, hw]; decide) c56 | cons q t => simp [s_bar, c39b]), rfl, rfl⟩)
              | exact ev_iret rfl rfl nar0 (Or.inr ⟨s_bar_f (by rw [h7] at c24; have ht := zi_1.mp c24; cases hw : F.2 with | nil => rw [hw] at ht; cases ht | cons q t => rw [hw] at ht; simp [s_bar, ht]), rfl, rfl⟩)
      · refine ev_blk 1 [] 28 ([some (.ref 43), some (.int (nI x)), none, none, none, none], [.int ((0 : Int32))], σ) rfl ?_ ?_
        · trivial
        first
        | exact ev_iret rfl rfl nar0 (Or.inr ⟨s_bar_f (by have c39b : aK (atC σ) x = 5 := Classical.byContradiction c39; cases hw : F.2 with | nil => exact absurd (show σ 43 5 ≤ 0 by rw [h5, hw]; decide) c56 | cons q t => simp [s_bar, c39b]), rfl, rfl⟩)
        | exact ev_iret rfl rfl nar0 (Or.inr ⟨s_bar_f (by rw [h7] at c24; have ht := zi_1.mp c24; cases hw : F.2 with | nil => rw [hw] at ht; cases ht | cons q t => rw [hw] at ht; simp [s_bar, ht]), rfl, rfl⟩)
