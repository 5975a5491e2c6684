def tkC (σ : xSg) : sTk := fun r q => decide (r < 3) && decide (q < 20) && bt (σ 10 r) q
def s_lnp (n : Nat) (w : Int32) (La : Nat → Int32) (l : Int32) (x : Nat) : Bool := decide (x < n) && bt w x && decide (La x = l)
def s_hd : List Nat → Int32
  | [] => -1
  | x :: _ => nI x
def s_hp : Option (Nat × Bool) → Int32
  | none => -1
  | some q => nI q.1
def s_ov (o0 o1 : Bool) : Int32 := if o0 = true then (if o1 = true then 3 else 1) else (if o1 = true then 2 else 0)
theorem s_ov_1 : ∀ o0 o1, s_ov o0 o1 &&& 1 = 0 ↔ o0 = false := by decide +kernel
theorem s_ov_2 : ∀ o0 o1, s_ov o0 o1 &&& 2 = 0 ↔ o1 = false := by decide +kernel
theorem s_ov_c0 : ∀ o0 o1, s_ov o0 o1 &&& (((1 : Int32) <<< ((0 : Int32) &&& 31)) ^^^ (-1 : Int32)) = s_ov false o1 := by decide +kernel
theorem s_ov_c1 : ∀ o0 o1, s_ov o0 o1 &&& (((1 : Int32) <<< ((1 : Int32) &&& 31)) ^^^ (-1 : Int32)) = s_ov o0 false := by decide +kernel
/-- a row that tells an order of the ten numbers -/
def ordOk (ord : List Nat) (f : Nat → Int32) : Prop := ord.length = 10 ∧ ord.Nodup ∧ ∀ i, i < 10 → ∃ x, ord[i]? = some x ∧ x < 10 ∧ f i = nI x
theorem ord_by : ordOk (List.range 10) (fun i => ([0, 1, 2, 3, 4, 5, 6, 7, 8, 9] : List Int32).getD i 0) := by
  refine ⟨rfl, by decide +kernel, fun i hi => ⟨i, by rw [List.getElem?_range hi], hi, ?_⟩⟩
  exact (by decide +kernel : ∀ i, i < 10 → ([0, 1, 2, 3, 4, 5, 6, 7, 8, 9] : List Int32).getD i 0 = nI i) i hi
theorem s_sec_def (σ : xSg) (x y : Nat) (lt : Bool) : s_sec (atC σ) x y lt = (if σ 9 4 = 1 then decide (s_rank (σ 2) (σ 4) x < s_rank (σ 2) (σ 4) y)
  else if σ 9 4 = 2 then decide (s_span (σ 2) (σ 3) y < s_span (σ 2) (σ 3) x)
  else if σ 9 4 = 3 then decide (σ 6 y < σ 6 x)
  else if σ 9 4 = 4 then decide (σ 5 x < σ 5 y)
  else lt) := rfl
set_option maxRecDepth 100000 in
theorem c_begin26 (σ : xSg) : xCtr M_X2_begin [.ref 26] σ (fun r σ1 => r = none ∧ FR (atC σ) σ1 26 27 28 29 30 (tkC σ, []) ∧ xFr [26, 27, 28, 29, 30] σ σ1) := by
  refine ctr_ev ok_X2_begin (by decide +kernel) rfl rfl rfl ?_
  show xEv (.inl 1) M_X2_begin _ 0 ([some (.ref 26)], [], σ)
  refine ev_blk 18 [¬ (0 : Int32) < 0, ¬ (0 : Int32) < 0, ¬ (3 : Int32) < 0, 0 + 3 ≤ 3, 0 + 3 ≤ 3, (0 : Int32) = 0 ∨ (0 : Int32) = 1] 32 ([some (.ref 26)], [], (x_up (x_up (x_up (x_up σ 27 (va_cpy (σ 10) (σ 27) 0 0 3)) 26 (upd (σ 26) 5 ((0 : Int32)))) 26 (upd (upd (σ 26) 5 ((0 : Int32))) 6 ((0 : Int32)))) 26 (upd (upd (upd (σ 26) 5 ((0 : Int32))) 6 ((0 : Int32))) 7 ((0 : Int32))))) rfl ?_ ?_
  · exact ⟨by decide, by decide, by decide, by decide, by decide, Or.inl rfl⟩
  refine ev_vret rfl rfl ⟨rfl, ⟨by simp, fun r q hr hq => ?_, rfl, rfl, (zi_f (by simp [s_tank])).symm, fun i x r p h => by simp at h⟩, fun c hc => by simp at hc; simp [x_up, hc]⟩
  show bt (va_cpy (σ 10) (σ 27) 0 0 3 r) q = tkC σ r q
  rw [pk_cpy_in (by omega) (by omega)]
  simp [tkC, hr, hq]
set_option maxRecDepth 100000 in
theorem c_spends26 (σ : xSg) : xPu M_X2_spends [.ref 26] σ (.int (x_mx 0 (σ 9 0 * σ 9 1 * σ 9 2 - σ 26 6))) := by
  refine ctr_ev ok_X2_spends (by decide +kernel) rfl rfl rfl ?_
  show xEv (.inl 1) M_X2_spends _ 0 ([some (.ref 26), none], [], σ)
  refine ev_blk 20 [vp_in ((0 : Int32)) 5, vp_in ((1 : Int32)) 5, vp_in ((2 : Int32)) 5] 28 ([some (.ref 26), some (.ref 9)], [.int (x_mx (0 : Int32) (((((σ 9) 0) * ((σ 9) 1)) * ((σ 9) 2)) - (σ 26 6)))], σ) rfl ?_ ?_
  · exact ⟨vp_in_nI (n := 0) (by decide) (by decide), vp_in_nI (n := 1) (by decide) (by decide), vp_in_nI (n := 2) (by decide) (by decide)⟩
  exact ev_iret rfl rfl rfl ⟨rfl, rfl⟩
set_option maxRecDepth 100000 in
theorem c_begin38 (σ : xSg) : xCtr M_X2_begin [.ref 38] σ (fun r σ1 => r = none ∧ FR (atC σ) σ1 38 39 40 41 42 (tkC σ, []) ∧ xFr [38, 39, 40, 41, 42] σ σ1) := by
  refine ctr_ev ok_X2_begin (by decide +kernel) rfl rfl rfl ?_
  show xEv (.inl 1) M_X2_begin _ 0 ([some (.ref 38)], [], σ)
  refine ev_blk 18 [¬ (0 : Int32) < 0, ¬ (0 : Int32) < 0, ¬ (3 : Int32) < 0, 0 + 3 ≤ 3, 0 + 3 ≤ 3, (0 : Int32) = 0 ∨ (0 : Int32) = 1] 32 ([some (.ref 38)], [], (x_up (x_up (x_up (x_up σ 39 (va_cpy (σ 10) (σ 39) 0 0 3)) 38 (upd (σ 38) 5 ((0 : Int32)))) 38 (upd (upd (σ 38) 5 ((0 : Int32))) 6 ((0 : Int32)))) 38 (upd (upd (upd (σ 38) 5 ((0 : Int32))) 6 ((0 : Int32))) 7 ((0 : Int32))))) rfl ?_ ?_
  · exact ⟨by decide, by decide, by decide, by decide, by decide, Or.inl rfl⟩
  refine ev_vret rfl rfl ⟨rfl, ⟨by simp, fun r q hr hq => ?_, rfl, rfl, (zi_f (by simp [s_tank])).symm, fun i x r p h => by simp at h⟩, fun c hc => by simp at hc; simp [x_up, hc]⟩
  show bt (va_cpy (σ 10) (σ 39) 0 0 3 r) q = tkC σ r q
  rw [pk_cpy_in (by omega) (by omega)]
  simp [tkC, hr, hq]
set_option maxRecDepth 100000 in
theorem c_spends38 (σ : xSg) : xPu M_X2_spends [.ref 38] σ (.int (x_mx 0 (σ 9 0 * σ 9 1 * σ 9 2 - σ 38 6))) := by
  refine ctr_ev ok_X2_spends (by decide +kernel) rfl rfl rfl ?_
  show xEv (.inl 1) M_X2_spends _ 0 ([some (.ref 38), none], [], σ)
  refine ev_blk 20 [vp_in ((0 : Int32)) 5, vp_in ((1 : Int32)) 5, vp_in ((2 : Int32)) 5] 28 ([some (.ref 38), some (.ref 9)], [.int (x_mx (0 : Int32) (((((σ 9) 0) * ((σ 9) 1)) * ((σ 9) 2)) - (σ 38 6)))], σ) rfl ?_ ?_
  · exact ⟨vp_in_nI (n := 0) (by decide) (by decide), vp_in_nI (n := 1) (by decide) (by decide), vp_in_nI (n := 2) (by decide) (by decide)⟩
  exact ev_iret rfl rfl rfl ⟨rfl, rfl⟩
set_option maxRecDepth 100000 in
theorem c_begin43 (σ : xSg) : xCtr M_X2_begin [.ref 43] σ (fun r σ1 => r = none ∧ FR (atC σ) σ1 43 44 45 46 47 (tkC σ, []) ∧ xFr [43, 44, 45, 46, 47] σ σ1) := by
  refine ctr_ev ok_X2_begin (by decide +kernel) rfl rfl rfl ?_
  show xEv (.inl 1) M_X2_begin _ 0 ([some (.ref 43)], [], σ)
  refine ev_blk 18 [¬ (0 : Int32) < 0, ¬ (0 : Int32) < 0, ¬ (3 : Int32) < 0, 0 + 3 ≤ 3, 0 + 3 ≤ 3, (0 : Int32) = 0 ∨ (0 : Int32) = 1] 32 ([some (.ref 43)], [], (x_up (x_up (x_up (x_up σ 44 (va_cpy (σ 10) (σ 44) 0 0 3)) 43 (upd (σ 43) 5 ((0 : Int32)))) 43 (upd (upd (σ 43) 5 ((0 : Int32))) 6 ((0 : Int32)))) 43 (upd (upd (upd (σ 43) 5 ((0 : Int32))) 6 ((0 : Int32))) 7 ((0 : Int32))))) rfl ?_ ?_
  · exact ⟨by decide, by decide, by decide, by decide, by decide, Or.inl rfl⟩
  refine ev_vret rfl rfl ⟨rfl, ⟨by simp, fun r q hr hq => ?_, rfl, rfl, (zi_f (by simp [s_tank])).symm, fun i x r p h => by simp at h⟩, fun c hc => by simp at hc; simp [x_up, hc]⟩
  show bt (va_cpy (σ 10) (σ 44) 0 0 3 r) q = tkC σ r q
  rw [pk_cpy_in (by omega) (by omega)]
  simp [tkC, hr, hq]
set_option maxRecDepth 100000 in
theorem c_spends43 (σ : xSg) : xPu M_X2_spends [.ref 43] σ (.int (x_mx 0 (σ 9 0 * σ 9 1 * σ 9 2 - σ 43 6))) := by
  refine ctr_ev ok_X2_spends (by decide +kernel) rfl rfl rfl ?_
  show xEv (.inl 1) M_X2_spends _ 0 ([some (.ref 43), none], [], σ)
  refine ev_blk 20 [vp_in ((0 : Int32)) 5, vp_in ((1 : Int32)) 5, vp_in ((2 : Int32)) 5] 28 ([some (.ref 43), some (.ref 9)], [.int (x_mx (0 : Int32) (((((σ 9) 0) * ((σ 9) 1)) * ((σ 9) 2)) - (σ 43 6)))], σ) rfl ?_ ?_
  · exact ⟨vp_in_nI (n := 0) (by decide) (by decide), vp_in_nI (n := 1) (by decide) (by decide), vp_in_nI (n := 2) (by decide) (by decide)⟩
  exact ev_iret rfl rfl rfl ⟨rfl, rfl⟩
set_option maxRecDepth 100000 in
theorem c_become43 (σ : xSg) (a : sAt) (F : sFl) (h : FR a σ 38 39 40 41 42 F) : xCtr M_X2_become [.ref 43, .ref 38] σ (fun r σ1 => r = none ∧ FR a σ1 43 44 45 46 47 F ∧ xFr [43, 44, 45, 46, 47] σ σ1) := by
  refine ctr_ev ok_X2_become (by decide +kernel) rfl rfl rfl ?_
  show xEv (.inl 1) M_X2_become _ 0 ([some (.ref 43), some (.ref 38)], [], σ)
  have hz : σ 38 7 = 0 ∨ σ 38 7 = 1 := by rw [h.2.2.2.2.1]; by_cases q : s_tank a F.2 = true; exact Or.inr (zi_t q); exact Or.inl (zi_f q)
  refine ev_blk 44 [¬ (0 : Int32) < 0, ¬ (0 : Int32) < 0, ¬ (3 : Int32) < 0, 0 + 3 ≤ 3, 0 + 3 ≤ 3, ¬ (0 : Int32) < 0, ¬ (0 : Int32) < 0, ¬ (10 : Int32) < 0, 0 + 10 ≤ 10, 0 + 10 ≤ 10, ¬ (0 : Int32) < 0, ¬ (0 : Int32) < 0, ¬ (10 : Int32) < 0, 0 + 10 ≤ 10, 0 + 10 ≤ 10, ¬ (0 : Int32) < 0, ¬ (0 : Int32) < 0, ¬ (10 : Int32) < 0, 0 + 10 ≤ 10, 0 + 10 ≤ 10, (σ 38 7) = 0 ∨ (σ 38 7) = 1] 83 ([some (.ref 43), some (.ref 38)], [], (x_up (x_up (x_up (x_up (x_up (x_up (x_up σ 44 (va_cpy (σ 39) (σ 44) 0 0 3)) 45 (va_cpy (σ 40) (σ 45) 0 0 10)) 46 (va_cpy (σ 41) (σ 46) 0 0 10)) 47 (va_cpy (σ 42) (σ 47) 0 0 10)) 43 (upd (σ 43) 5 ((σ 38 5)))) 43 (upd (upd (σ 43) 5 ((σ 38 5))) 6 ((σ 38 6)))) 43 (upd (upd (upd (σ 43) 5 ((σ 38 5))) 6 ((σ 38 6))) 7 ((σ 38 7))))) rfl ?_ ?_
  · exact ⟨by decide, by decide, by decide, by decide, by decide, by decide, by decide, by decide, by decide, by decide, by decide, by decide, by decide, by decide, by decide, by decide, by decide, by decide, by decide, by decide, hz⟩
  refine ev_vret rfl rfl ⟨rfl, ⟨h.1, fun r q hr hq => ?_, h.2.2.1, h.2.2.2.1, h.2.2.2.2.1, fun i x r p hi => ?_⟩, fun c hc => by simp at hc; simp [x_up, hc]⟩
  · show bt (va_cpy (σ 39) (σ 44) 0 0 3 r) q = _
    rw [pk_cpy_in (by omega) (by omega)]
    simpa using h.2.1 r q hr hq
  · have hi10 : i < 10 := Nat.lt_of_lt_of_le (List.getElem?_eq_some_iff.mp hi).1 h.1
    show va_cpy (σ 40) (σ 45) 0 0 10 i = nI x ∧ va_cpy (σ 41) (σ 46) 0 0 10 i = nI r ∧ va_cpy (σ 42) (σ 47) 0 0 10 i = nI p
    rw [pk_cpy_in (by omega) (by omega), pk_cpy_in (by omega) (by omega), pk_cpy_in (by omega) (by omega)]
    simpa using h.2.2.2.2.2 i x r p hi
set_option maxRecDepth 100000 in
theorem c_head104_lp (σ : xSg) (n : Nat) (ord : List Nat) (still ln : Int32) (hn10 : n ≤ 10) (hn : σ 1 0 = nI n) (ho : ordOk ord (fun i => ([0, 1, 2, 3, 4, 5, 6, 7, 8, 9] : List Int32).getD i 0)) : ∀ (m i : Nat), i + m = 10 → ord.filter (s_lnp n still (σ 7) ln) = (ord.drop i).filter (s_lnp n still (σ 7) ln) → xEv (.inl 1) M_X2_head (fun r1 σ1 => r1 = some (.int (s_hd (ord.filter (s_lnp n still (σ 7) ln)))) ∧ σ1 = σ) 3 ([some (.ref 26), some (.int (ln)), some (.int (still)), some (.ref 104), some (.int (nI i)), none], [], σ) := by
  intro m
  induction m with
  | zero =>
    intro i hi hf
    refine ev_br 3 [] ((10 : Int32) ≤ (nI i)) 60 10 ([some (.ref 26), some (.int (ln)), some (.int (still)), some (.ref 104), some (.int (nI i)), none], [], σ) rfl ?_ (fun c7 => ?_) (fun c7 => ?_)
    · trivial
    · refine ev_blk 1 [] 61 ([some (.ref 26), some (.int (ln)), some (.int (still)), some (.ref 104), some (.int (nI i)), none], [.int ((-1 : Int32))], σ) rfl ?_ ?_
      · trivial
      exact ev_iret rfl rfl rfl ⟨by rw [hf, List.drop_eq_nil_of_le (by rw [ho.1]; omega)]; rfl, rfl⟩
    · exact absurd (show (10 : Int32) ≤ nI i by rw [show i = 10 by omega]; decide) c7
  | succ m ih =>
    intro i hi hf
    obtain ⟨x, hx1, hx2, hx3⟩ := ho.2.2 i (by omega)
    have hic : (nI i).toNatClampNeg = i := nI_clamp (by omega)
    have hxc : (nI x).toNatClampNeg = x := nI_clamp (by omega)
    have hdr : ord.drop i = x :: ord.drop (i + 1) := by
      obtain ⟨hl, he⟩ := List.getElem?_eq_some_iff.mp hx1
      rw [List.drop_eq_getElem_cons hl, he]
    have key : s_lnp n still (σ 7) ln x = false → xEv (.inl 1) M_X2_head (fun r1 σ1 => r1 = some (.int (s_hd (ord.filter (s_lnp n still (σ 7) ln)))) ∧ σ1 = σ) 3 ([some (.ref 26), some (.int (ln)), some (.int (still)), some (.ref 104), some (.int (nI (i + 1))), none], [], σ) := fun q => ih (i + 1) (by omega) (by rw [hf, hdr, List.filter_cons_of_neg (by rw [q]; decide)])
    have hsx : iSh σ (nI x) ↔ x < n := ⟨fun q => Nat.lt_of_not_le (fun z => q.2.1 (by rw [hn]; exact nI_le z (by omega))), fun q => ⟨nI_pos (by omega), by rw [hn]; exact nI_ge q (by omega), nI_ge (b := 10) (by omega) (by omega)⟩⟩
    refine ev_br 3 [] ((10 : Int32) ≤ (nI i)) 60 10 ([some (.ref 26), some (.int (ln)), some (.int (still)), some (.ref 104), some (.int (nI i)), none], [], σ) rfl ?_ (fun c7 => ?_) (fun c7 => ?_)
    · trivial
    · exact absurd c7 (nI_ge (b := 10) (by omega) (by decide))
    · refine ev_blk 7 [vp_in (nI i) 10] 22 ([some (.ref 26), some (.int (ln)), some (.int (still)), some (.ref 104), some (.int (nI i)), some (.int (([0, 1, 2, 3, 4, 5, 6, 7, 8, 9] : List Int32).getD (nI i).toNatClampNeg 0))], [.int (([0, 1, 2, 3, 4, 5, 6, 7, 8, 9] : List Int32).getD (nI i).toNatClampNeg 0), .ref 1], σ) rfl ?_ ?_
      · exact vp_in_nI (by omega) (by decide)
      rw [(show ([0, 1, 2, 3, 4, 5, 6, 7, 8, 9] : List Int32).getD (nI i).toNatClampNeg 0 = nI x by rw [hic]; exact hx3)]
      refine ev_callV M_X3_isShip [.int (nI x)] [] 1 rfl rfl ln_X2_59 k_X3_isShip rfl rfl rfl rfl rfl rfl (c_isShip _ _) ?_
      refine pu_k ?_
      show xEv _ _ _ 25 ([some (.ref 26), some (.int (ln)), some (.int (still)), some (.ref 104), some (.int (nI i)), some (.int (nI x))], [.int (zi (iSh σ (nI x)))], σ)
      refine ev_br 0 [] ((zi (iSh σ (nI x))) = 0) 54 28 ([some (.ref 26), some (.int (ln)), some (.int (still)), some (.ref 104), some (.int (nI i)), some (.int (nI x))], [], σ) rfl ?_ (fun c25 => ?_) (fun c25 => ?_)
      · trivial
      · replace c25 := zi_0.mp c25
        refine ev_blk 2 [] 3 ([some (.ref 26), some (.int (ln)), some (.int (still)), some (.ref 104), some (.int ((nI i) + (1 : Int32))), some (.int (nI x))], [], σ) rfl ?_ ?_
        · trivial
        rw [nI_1]
        refine ev_drop 5 ?_
        refine key ?_
        unfold s_lnp
        have c25b : ¬ x < n := fun q => c25 (hsx.mpr q)
        simp [c25b]
      · replace c25 := zi_1.mp c25
        refine ev_br 5 [] (((still >>> ((nI x) &&& 31)) &&& (1 : Int32)) = 0) 54 37 ([some (.ref 26), some (.int (ln)), some (.int (still)), some (.ref 104), some (.int (nI i)), some (.int (nI x))], [], σ) rfl ?_ (fun c34 => ?_) (fun c34 => ?_)
        · trivial
        · refine ev_blk 2 [] 3 ([some (.ref 26), some (.int (ln)), some (.int (still)), some (.ref 104), some (.int ((nI i) + (1 : Int32))), some (.int (nI x))], [], σ) rfl ?_ ?_
          · trivial
          rw [nI_1]
          refine ev_drop 5 ?_
          refine key ?_
          unfold s_lnp
          have c34b := (b_tst (by omega)).mp c34
          simp [c34b]
        · refine ev_br 6 [vp_in (nI x) 10] (¬ ((σ 7) (nI x).toNatClampNeg) = ln) 54 51 ([some (.ref 26), some (.int (ln)), some (.int (still)), some (.ref 104), some (.int (nI i)), some (.int (nI x))], [], σ) rfl ?_ (fun c48 => ?_) (fun c48 => ?_)
          · exact vp_in_nI (by omega) (by decide)
          · rw [hxc] at c48
            refine ev_blk 2 [] 3 ([some (.ref 26), some (.int (ln)), some (.int (still)), some (.ref 104), some (.int ((nI i) + (1 : Int32))), some (.int (nI x))], [], σ) rfl ?_ ?_
            · trivial
            rw [nI_1]
            refine ev_drop 5 ?_
            refine key ?_
            unfold s_lnp
            simp [c48]
          · rw [hxc] at c48
            refine ev_blk 1 [] 53 ([some (.ref 26), some (.int (ln)), some (.int (still)), some (.ref 104), some (.int (nI i)), some (.int (nI x))], [.int (nI x)], σ) rfl ?_ ?_
            · trivial
            refine ev_iret rfl rfl rfl ⟨?_, rfl⟩
            have c34b : bt still x = true := by cases hb : bt still x with | true => rfl | false => exact absurd ((b_tst (by omega)).mpr hb) c34
            rw [hf, hdr, List.filter_cons_of_pos (by simp [s_lnp, hsx.mp c25, c34b, Classical.byContradiction c48])]
            rfl
set_option maxRecDepth 100000 in
theorem c_head104 (σ : xSg) (n : Nat) (ord : List Nat) (still ln : Int32) (hn10 : n ≤ 10) (hn : σ 1 0 = nI n) (ho : ordOk ord (fun i => ([0, 1, 2, 3, 4, 5, 6, 7, 8, 9] : List Int32).getD i 0)) : xPu M_X2_head [.ref 26, .int ln, .int still, .ref 104] σ (.int (s_hd (ord.filter (s_lnp n still (σ 7) ln)))) := by
  refine ctr_ev ok_X2_head (by decide +kernel) rfl rfl rfl ?_
  show xEv (.inl 1) M_X2_head _ 0 ([some (.ref 26), some (.int (ln)), some (.int (still)), some (.ref 104), none, none], [], σ)
  refine ev_blk 2 [] 3 ([some (.ref 26), some (.int (ln)), some (.int (still)), some (.ref 104), some (.int ((0 : Int32))), none], [], σ) rfl ?_ ?_
  · trivial
  exact c_head104_lp σ n ord still ln hn10 hn ho 10 0 rfl rfl
set_option maxRecDepth 100000 in
theorem c_head32_lp (σ : xSg) (n : Nat) (ord : List Nat) (still ln : Int32) (hn10 : n ≤ 10) (hn : σ 1 0 = nI n) (ho : ordOk ord (σ 32)) : ∀ (m i : Nat), i + m = 10 → ord.filter (s_lnp n still (σ 7) ln) = (ord.drop i).filter (s_lnp n still (σ 7) ln) → xEv (.inl 1) M_X2_head (fun r1 σ1 => r1 = some (.int (s_hd (ord.filter (s_lnp n still (σ 7) ln)))) ∧ σ1 = σ) 3 ([some (.ref 26), some (.int (ln)), some (.int (still)), some (.ref 32), some (.int (nI i)), none], [], σ) := by
  intro m
  induction m with
  | zero =>
    intro i hi hf
    refine ev_br 3 [] ((10 : Int32) ≤ (nI i)) 60 10 ([some (.ref 26), some (.int (ln)), some (.int (still)), some (.ref 32), some (.int (nI i)), none], [], σ) rfl ?_ (fun c7 => ?_) (fun c7 => ?_)
    · trivial
    · refine ev_blk 1 [] 61 ([some (.ref 26), some (.int (ln)), some (.int (still)), some (.ref 32), some (.int (nI i)), none], [.int ((-1 : Int32))], σ) rfl ?_ ?_
      · trivial
      exact ev_iret rfl rfl rfl ⟨by rw [hf, List.drop_eq_nil_of_le (by rw [ho.1]; omega)]; rfl, rfl⟩
    · exact absurd (show (10 : Int32) ≤ nI i by rw [show i = 10 by omega]; decide) c7
  | succ m ih =>
    intro i hi hf
    obtain ⟨x, hx1, hx2, hx3⟩ := ho.2.2 i (by omega)
    have hic : (nI i).toNatClampNeg = i := nI_clamp (by omega)
    have hxc : (nI x).toNatClampNeg = x := nI_clamp (by omega)
    have hdr : ord.drop i = x :: ord.drop (i + 1) := by
      obtain ⟨hl, he⟩ := List.getElem?_eq_some_iff.mp hx1
      rw [List.drop_eq_getElem_cons hl, he]
    have key : s_lnp n still (σ 7) ln x = false → xEv (.inl 1) M_X2_head (fun r1 σ1 => r1 = some (.int (s_hd (ord.filter (s_lnp n still (σ 7) ln)))) ∧ σ1 = σ) 3 ([some (.ref 26), some (.int (ln)), some (.int (still)), some (.ref 32), some (.int (nI (i + 1))), none], [], σ) := fun q => ih (i + 1) (by omega) (by rw [hf, hdr, List.filter_cons_of_neg (by rw [q]; decide)])
    have hsx : iSh σ (nI x) ↔ x < n := ⟨fun q => Nat.lt_of_not_le (fun z => q.2.1 (by rw [hn]; exact nI_le z (by omega))), fun q => ⟨nI_pos (by omega), by rw [hn]; exact nI_ge q (by omega), nI_ge (b := 10) (by omega) (by omega)⟩⟩
    refine ev_br 3 [] ((10 : Int32) ≤ (nI i)) 60 10 ([some (.ref 26), some (.int (ln)), some (.int (still)), some (.ref 32), some (.int (nI i)), none], [], σ) rfl ?_ (fun c7 => ?_) (fun c7 => ?_)
    · trivial
    · exact absurd c7 (nI_ge (b := 10) (by omega) (by decide))
    · refine ev_blk 7 [vp_in (nI i) 10] 22 ([some (.ref 26), some (.int (ln)), some (.int (still)), some (.ref 32), some (.int (nI i)), some (.int ((σ 32) (nI i).toNatClampNeg))], [.int ((σ 32) (nI i).toNatClampNeg), .ref 1], σ) rfl ?_ ?_
      · exact vp_in_nI (by omega) (by decide)
      rw [(show (σ 32) (nI i).toNatClampNeg = nI x by rw [hic]; exact hx3)]
      refine ev_callV M_X3_isShip [.int (nI x)] [] 1 rfl rfl ln_X2_59 k_X3_isShip rfl rfl rfl rfl rfl rfl (c_isShip _ _) ?_
      refine pu_k ?_
      show xEv _ _ _ 25 ([some (.ref 26), some (.int (ln)), some (.int (still)), some (.ref 32), some (.int (nI i)), some (.int (nI x))], [.int (zi (iSh σ (nI x)))], σ)
      refine ev_br 0 [] ((zi (iSh σ (nI x))) = 0) 54 28 ([some (.ref 26), some (.int (ln)), some (.int (still)), some (.ref 32), some (.int (nI i)), some (.int (nI x))], [], σ) rfl ?_ (fun c25 => ?_) (fun c25 => ?_)
      · trivial
      · replace c25 := zi_0.mp c25
        refine ev_blk 2 [] 3 ([some (.ref 26), some (.int (ln)), some (.int (still)), some (.ref 32), some (.int ((nI i) + (1 : Int32))), some (.int (nI x))], [], σ) rfl ?_ ?_
        · trivial
        rw [nI_1]
        refine ev_drop 5 ?_
        refine key ?_
        unfold s_lnp
        have c25b : ¬ x < n := fun q => c25 (hsx.mpr q)
        simp [c25b]
      · replace c25 := zi_1.mp c25
        refine ev_br 5 [] (((still >>> ((nI x) &&& 31)) &&& (1 : Int32)) = 0) 54 37 ([some (.ref 26), some (.int (ln)), some (.int (still)), some (.ref 32), some (.int (nI i)), some (.int (nI x))], [], σ) rfl ?_ (fun c34 => ?_) (fun c34 => ?_)
        · trivial
        · refine ev_blk 2 [] 3 ([some (.ref 26), some (.int (ln)), some (.int (still)), some (.ref 32), some (.int ((nI i) + (1 : Int32))), some (.int (nI x))], [], σ) rfl ?_ ?_
          · trivial
          rw [nI_1]
          refine ev_drop 5 ?_
          refine key ?_
          unfold s_lnp
          have c34b := (b_tst (by omega)).mp c34
          simp [c34b]
        · refine ev_br 6 [vp_in (nI x) 10] (¬ ((σ 7) (nI x).toNatClampNeg) = ln) 54 51 ([some (.ref 26), some (.int (ln)), some (.int (still)), some (.ref 32), some (.int (nI i)), some (.int (nI x))], [], σ) rfl ?_ (fun c48 => ?_) (fun c48 => ?_)
          · exact vp_in_nI (by omega) (by decide)
          · rw [hxc] at c48
            refine ev_blk 2 [] 3 ([some (.ref 26), some (.int (ln)), some (.int (still)), some (.ref 32), some (.int ((nI i) + (1 : Int32))), some (.int (nI x))], [], σ) rfl ?_ ?_
            · trivial
            rw [nI_1]
            refine ev_drop 5 ?_
            refine key ?_
            unfold s_lnp
            simp [c48]
          · rw [hxc] at c48
            refine ev_blk 1 [] 53 ([some (.ref 26), some (.int (ln)), some (.int (still)), some (.ref 32), some (.int (nI i)), some (.int (nI x))], [.int (nI x)], σ) rfl ?_ ?_
            · trivial
            refine ev_iret rfl rfl rfl ⟨?_, rfl⟩
            have c34b : bt still x = true := by cases hb : bt still x with | true => rfl | false => exact absurd ((b_tst (by omega)).mpr hb) c34
            rw [hf, hdr, List.filter_cons_of_pos (by simp [s_lnp, hsx.mp c25, c34b, Classical.byContradiction c48])]
            rfl
set_option maxRecDepth 100000 in
theorem c_head32 (σ : xSg) (n : Nat) (ord : List Nat) (still ln : Int32) (hn10 : n ≤ 10) (hn : σ 1 0 = nI n) (ho : ordOk ord (σ 32)) : xPu M_X2_head [.ref 26, .int ln, .int still, .ref 32] σ (.int (s_hd (ord.filter (s_lnp n still (σ 7) ln)))) := by
  refine ctr_ev ok_X2_head (by decide +kernel) rfl rfl rfl ?_
  show xEv (.inl 1) M_X2_head _ 0 ([some (.ref 26), some (.int (ln)), some (.int (still)), some (.ref 32), none, none], [], σ)
  refine ev_blk 2 [] 3 ([some (.ref 26), some (.int (ln)), some (.int (still)), some (.ref 32), some (.int ((0 : Int32))), none], [], σ) rfl ?_ ?_
  · trivial
  exact c_head32_lp σ n ord still ln hn10 hn ho 10 0 rfl rfl
set_option maxRecDepth 100000 in
theorem c_sec (σ : xSg) (n x y : Nat) (la : Int32) (hn10 : n ≤ 10) (hn : σ 1 0 = nI n) (hx : x < n) (hy : y < n) : xPu M_X2_isSecondTaken [.ref 26, .int (nI x), .int (nI y), .int la] σ (.int (zi (s_sec (atC σ) x y (decide (la = 0)) = true))) := by
  have hxc : (nI x).toNatClampNeg = x := nI_clamp (by omega)
  have hyc : (nI y).toNatClampNeg = y := nI_clamp (by omega)
  have hsh : ∀ z, z < n → iSh σ (nI z) := fun z hz => ⟨nI_pos (by omega), by rw [hn]; exact nI_ge hz (by omega), nI_ge (b := 10) (by omega) (by omega)⟩
  refine ctr_ev ok_X2_isSecondTaken (by decide +kernel) rfl rfl rfl ?_
  show xEv (.inl 2) M_X2_isSecondTaken _ 0 ([some (.ref 26), some (.int (nI x)), some (.int (nI y)), some (.int (la))], [], σ)
  refine ev_blk 3 [] 5 ([some (.ref 26), some (.int (nI x)), some (.int (nI y)), some (.int (la))], [.int (nI x), .ref 1], σ) rfl ?_ ?_
  · trivial
  refine ev_callV M_X3_isShip [.int (nI x)] [] 1 rfl rfl ln_X2_59 k_X3_isShip rfl rfl rfl rfl rfl rfl (c_isShip _ _) ?_
  refine pu_k ?_
  show xEv _ _ _ 8 ([some (.ref 26), some (.int (nI x)), some (.int (nI y)), some (.int (la))], [.int (zi (iSh σ (nI x)))], σ)
  refine ev_br 0 [] ((zi (iSh σ (nI x))) = 0) 22 11 ([some (.ref 26), some (.int (nI x)), some (.int (nI y)), some (.int (la))], [], σ) rfl ?_ (fun c8 => ?_) (fun c8 => ?_)
  · trivial
  · exact absurd (hsh x hx) (zi_0.mp c8)
  · replace c8 := zi_1.mp c8
    refine ev_blk 3 [] 16 ([some (.ref 26), some (.int (nI x)), some (.int (nI y)), some (.int (la))], [.int (nI y), .ref 1], σ) rfl ?_ ?_
    · trivial
    refine ev_callV M_X3_isShip [.int (nI y)] [] 1 rfl rfl ln_X2_59 k_X3_isShip rfl rfl rfl rfl rfl rfl (c_isShip _ _) ?_
    refine pu_k ?_
    show xEv _ _ _ 19 ([some (.ref 26), some (.int (nI x)), some (.int (nI y)), some (.int (la))], [.int (zi (iSh σ (nI y)))], σ)
    refine ev_br 0 [] (¬ (zi (iSh σ (nI y))) = 0) 24 22 ([some (.ref 26), some (.int (nI x)), some (.int (nI y)), some (.int (la))], [], σ) rfl ?_ (fun c19 => ?_) (fun c19 => ?_)
    · trivial
    · replace c19 := zi_1.mp c19
      refine ev_sw 5 [vp_in ((4 : Int32)) 5] ((σ 9) 4) [((1 : Int32), 64), ((2 : Int32), 89), ((3 : Int32), 114), ((4 : Int32), 141)] 168 ([some (.ref 26), some (.int (nI x)), some (.int (nI y)), some (.int (la))], [], σ) rfl ?_ ?_
      · exact vp_in_nI (n := 4) (by decide) (by decide)
      refine ⟨fun c33_1 => ?_, fun c33_1 => ?_⟩
      · refine ev_blk 3 [] 69 ([some (.ref 26), some (.int (nI x)), some (.int (nI y)), some (.int (la))], [.int (nI y), .ref 1], σ) rfl ?_ ?_
        · trivial
        refine ev_callV M_X3_rank [.int (nI y)] [] 1 rfl rfl ln_X2_99 k_X3_rank rfl rfl rfl rfl rfl rfl (c_rank _ _ ⟨nI_pos (by omega), nI_lt (b := 10) (by omega) (by omega)⟩) ?_
        refine pu_k ?_
        show xEv _ _ _ 72 ([some (.ref 26), some (.int (nI x)), some (.int (nI y)), some (.int (la))], [.int (s_rank (σ 2) (σ 4) (nI y).toNatClampNeg)], σ)
        rw [hyc]
        refine ev_blk 3 [] 77 ([some (.ref 26), some (.int (nI x)), some (.int (nI y)), some (.int (la))], [.int (nI x), .ref 1, .int (s_rank (σ 2) (σ 4) y)], σ) rfl ?_ ?_
        · trivial
        refine ev_callV M_X3_rank [.int (nI x)] [.int (s_rank (σ 2) (σ 4) y)] 1 rfl rfl ln_X2_99 k_X3_rank rfl rfl rfl rfl rfl rfl (c_rank _ _ ⟨nI_pos (by omega), nI_lt (b := 10) (by omega) (by omega)⟩) ?_
        refine pu_k ?_
        show xEv _ _ _ 80 ([some (.ref 26), some (.int (nI x)), some (.int (nI y)), some (.int (la))], [.int (s_rank (σ 2) (σ 4) (nI x).toNatClampNeg), .int (s_rank (σ 2) (σ 4) y)], σ)
        rw [hxc]
        refine ev_br 0 [] ((s_rank (σ 2) (σ 4) y) ≤ (s_rank (σ 2) (σ 4) x)) 87 83 ([some (.ref 26), some (.int (nI x)), some (.int (nI y)), some (.int (la))], [], σ) rfl ?_ (fun c80 => ?_) (fun c80 => ?_)
        · trivial
        · refine ev_blk 1 [] 88 ([some (.ref 26), some (.int (nI x)), some (.int (nI y)), some (.int (la))], [.int ((0 : Int32))], σ) rfl ?_ ?_
          · trivial
          exact ev_iret rfl rfl nar0 (pu_f (by rw [s_sec_def]; simp_all))
        · refine ev_blk 2 [] 88 ([some (.ref 26), some (.int (nI x)), some (.int (nI y)), some (.int (la))], [.int ((1 : Int32))], σ) rfl ?_ ?_
          · trivial
          exact ev_iret rfl rfl nar1 (pu_t (by rw [s_sec_def]; simp_all))
      refine ⟨fun c33_2 => ?_, fun c33_2 => ?_⟩
      · refine ev_blk 3 [] 94 ([some (.ref 26), some (.int (nI x)), some (.int (nI y)), some (.int (la))], [.int (nI y), .ref 1], σ) rfl ?_ ?_
        · trivial
        refine ev_callV M_X3_span [.int (nI y)] [] 1 rfl rfl ln_X2_66 k_X3_span rfl rfl rfl rfl rfl rfl (c_span _ _ ⟨nI_pos (by omega), nI_lt (b := 10) (by omega) (by omega)⟩) ?_
        refine pu_k ?_
        show xEv _ _ _ 97 ([some (.ref 26), some (.int (nI x)), some (.int (nI y)), some (.int (la))], [.int (s_span (σ 2) (σ 3) (nI y).toNatClampNeg)], σ)
        rw [hyc]
        refine ev_blk 3 [] 102 ([some (.ref 26), some (.int (nI x)), some (.int (nI y)), some (.int (la))], [.int (nI x), .ref 1, .int (s_span (σ 2) (σ 3) y)], σ) rfl ?_ ?_
        · trivial
        refine ev_callV M_X3_span [.int (nI x)] [.int (s_span (σ 2) (σ 3) y)] 1 rfl rfl ln_X2_66 k_X3_span rfl rfl rfl rfl rfl rfl (c_span _ _ ⟨nI_pos (by omega), nI_lt (b := 10) (by omega) (by omega)⟩) ?_
        refine pu_k ?_
        show xEv _ _ _ 105 ([some (.ref 26), some (.int (nI x)), some (.int (nI y)), some (.int (la))], [.int (s_span (σ 2) (σ 3) (nI x).toNatClampNeg), .int (s_span (σ 2) (σ 3) y)], σ)
        rw [hxc]
        refine ev_br 0 [] ((s_span (σ 2) (σ 3) x) ≤ (s_span (σ 2) (σ 3) y)) 112 108 ([some (.ref 26), some (.int (nI x)), some (.int (nI y)), some (.int (la))], [], σ) rfl ?_ (fun c105 => ?_) (fun c105 => ?_)
        · trivial
        · refine ev_blk 1 [] 113 ([some (.ref 26), some (.int (nI x)), some (.int (nI y)), some (.int (la))], [.int ((0 : Int32))], σ) rfl ?_ ?_
          · trivial
          exact ev_iret rfl rfl nar0 (pu_f (by rw [s_sec_def]; simp_all))
        · refine ev_blk 2 [] 113 ([some (.ref 26), some (.int (nI x)), some (.int (nI y)), some (.int (la))], [.int ((1 : Int32))], σ) rfl ?_ ?_
          · trivial
          exact ev_iret rfl rfl nar1 (pu_t (by rw [s_sec_def]; simp_all))
      refine ⟨fun c33_3 => ?_, fun c33_3 => ?_⟩
      · refine ev_br 10 [vp_in (nI y) 10, vp_in (nI x) 10] (((σ 6) (nI x).toNatClampNeg) ≤ ((σ 6) (nI y).toNatClampNeg)) 139 135 ([some (.ref 26), some (.int (nI x)), some (.int (nI y)), some (.int (la))], [], σ) rfl ?_ (fun c132 => ?_) (fun c132 => ?_)
        · exact ⟨vp_in_nI (by omega) (by decide), vp_in_nI (by omega) (by decide)⟩
        · rw [hxc] at c132
          rw [hyc] at c132
          refine ev_blk 1 [] 140 ([some (.ref 26), some (.int (nI x)), some (.int (nI y)), some (.int (la))], [.int ((0 : Int32))], σ) rfl ?_ ?_
          · trivial
          exact ev_iret rfl rfl nar0 (pu_f (by rw [s_sec_def]; simp_all))
        · rw [hxc] at c132
          rw [hyc] at c132
          refine ev_blk 2 [] 140 ([some (.ref 26), some (.int (nI x)), some (.int (nI y)), some (.int (la))], [.int ((1 : Int32))], σ) rfl ?_ ?_
          · trivial
          exact ev_iret rfl rfl nar1 (pu_t (by rw [s_sec_def]; simp_all))
      refine ⟨fun c33_4 => ?_, fun c33_4 => ?_⟩
      · refine ev_br 10 [vp_in (nI y) 10, vp_in (nI x) 10] (((σ 5) (nI y).toNatClampNeg) ≤ ((σ 5) (nI x).toNatClampNeg)) 166 162 ([some (.ref 26), some (.int (nI x)), some (.int (nI y)), some (.int (la))], [], σ) rfl ?_ (fun c159 => ?_) (fun c159 => ?_)
        · exact ⟨vp_in_nI (by omega) (by decide), vp_in_nI (by omega) (by decide)⟩
        · rw [hxc] at c159
          rw [hyc] at c159
          refine ev_blk 1 [] 167 ([some (.ref 26), some (.int (nI x)), some (.int (nI y)), some (.int (la))], [.int ((0 : Int32))], σ) rfl ?_ ?_
          · trivial
          exact ev_iret rfl rfl nar0 (pu_f (by rw [s_sec_def]; simp_all))
        · rw [hxc] at c159
          rw [hyc] at c159
          refine ev_blk 2 [] 167 ([some (.ref 26), some (.int (nI x)), some (.int (nI y)), some (.int (la))], [.int ((1 : Int32))], σ) rfl ?_ ?_
          · trivial
          exact ev_iret rfl rfl nar1 (pu_t (by rw [s_sec_def]; simp_all))
      show xEv _ _ _ 168 ([some (.ref 26), some (.int (nI x)), some (.int (nI y)), some (.int (la))], [], σ)
      refine ev_br 1 [] (¬ la = 0) 176 172 ([some (.ref 26), some (.int (nI x)), some (.int (nI y)), some (.int (la))], [], σ) rfl ?_ (fun c169 => ?_) (fun c169 => ?_)
      · trivial
      · refine ev_blk 1 [] 177 ([some (.ref 26), some (.int (nI x)), some (.int (nI y)), some (.int (la))], [.int ((0 : Int32))], σ) rfl ?_ ?_
        · trivial
        exact ev_iret rfl rfl nar0 (pu_f (by rw [s_sec_def]; simp_all))
      · refine ev_blk 2 [] 177 ([some (.ref 26), some (.int (nI x)), some (.int (nI y)), some (.int (la))], [.int ((1 : Int32))], σ) rfl ?_ ?_
        · trivial
        exact ev_iret rfl rfl nar1 (pu_t (by rw [s_sec_def]; simp_all))
    · exact absurd (hsh y hy) (zi_n.mp c19)
