theorem s_opn_mem {o : Bool} {L : List Nat} {x : Nat} (h : x ∈ s_opn o L) : x ∈ L := by
  unfold s_opn at h
  split at h
  · exact h
  · cases h
theorem s_hd_nil {L : List Nat} (h : ∀ x ∈ L, x < 10) : s_hd L = -1 ↔ L = [] := by
  cases L with
  | nil => exact ⟨fun _ => rfl, fun _ => rfl⟩
  | cons x t => exact ⟨fun q => absurd q (nI_m1 (by have := h x List.mem_cons_self; omega)), fun q => by cases q⟩
theorem s_pk_0 {a : sAt} {lt : Bool} {A B : List Nat} {x : Nat} {t : List Nat} (hA : A = x :: t) (hB : B = []) : s_pick a lt A B = some (x, false) := by subst hA; subst hB; rfl
theorem s_pk_1 {a : sAt} {lt : Bool} {A B : List Nat} {y : Nat} {t : List Nat} (hA : A = []) (hB : B = y :: t) : s_pick a lt A B = some (y, true) := by subst hA; subst hB; rfl
theorem s_pk_n {a : sAt} {lt : Bool} {A B : List Nat} (hA : A = []) (hB : B = []) : s_pick a lt A B = none := by subst hA; subst hB; rfl
theorem s_pk_2 {a : sAt} {lt : Bool} {A B : List Nat} {x y : Nat} {t u : List Nat} (hA : A = x :: t) (hB : B = y :: u) : s_pick a lt A B = if s_sec a x y lt = true then some (y, true) else some (x, false) := by subst hA; subst hB; rfl
theorem s_st_n {a : sAt} {A B : List Nat} {o0 o1 lt : Bool} {F : sFl} (h : s_pick a lt (s_opn o0 A) (s_opn o1 B) = none) : s_step a (A, B, o0, o1, lt, F) = none := by unfold s_step; dsimp only; rw [h]
theorem s_st_0 {a : sAt} {A B : List Nat} {o0 o1 lt : Bool} {F F' : sFl} {x : Nat} (h : s_pick a lt (s_opn o0 A) (s_opn o1 B) = some (x, false)) (hF : s_in a x F = some F') : s_step a (A, B, o0, o1, lt, F) = some (A.tail, B, o0, o1, true, F') := by unfold s_step; dsimp only; rw [h]; dsimp only; rw [hF]
theorem s_st_0n {a : sAt} {A B : List Nat} {o0 o1 lt : Bool} {F : sFl} {x : Nat} (h : s_pick a lt (s_opn o0 A) (s_opn o1 B) = some (x, false)) (hF : s_in a x F = none) : s_step a (A, B, o0, o1, lt, F) = some (A, B, false, o1, lt, F) := by unfold s_step; dsimp only; rw [h]; dsimp only; rw [hF]
theorem s_st_1 {a : sAt} {A B : List Nat} {o0 o1 lt : Bool} {F F' : sFl} {x : Nat} (h : s_pick a lt (s_opn o0 A) (s_opn o1 B) = some (x, true)) (hF : s_in a x F = some F') : s_step a (A, B, o0, o1, lt, F) = some (A, B.tail, o0, o1, false, F') := by unfold s_step; dsimp only; rw [h]; dsimp only; rw [hF]
theorem s_st_1n {a : sAt} {A B : List Nat} {o0 o1 lt : Bool} {F : sFl} {x : Nat} (h : s_pick a lt (s_opn o0 A) (s_opn o1 B) = some (x, true)) (hF : s_in a x F = none) : s_step a (A, B, o0, o1, lt, F) = some (A, B, o0, false, lt, F) := by unfold s_step; dsimp only; rw [h]; dsimp only; rw [hF]
theorem s_in_w {a : sAt} {x : Nat} {F F' : sFl} (h : s_in a x F = some F') : ∃ r p, F'.2 = F.2 ++ [(x, r, p)] := by
  unfold s_in at h
  split at h
  · cases h
  · split at h
    next r p _ => cases h; exact ⟨r, p, rfl⟩
    next => cases h
theorem fl_clr {ord : List Nat} {p p' : Nat → Bool} {x : Nat} {t : List Nat} (hnd : ord.Nodup) (h : ord.filter p = x :: t) (hp : ∀ y, p' y = (p y && !decide (y = x))) : ord.filter p' = t := by
  have e : ord.filter p' = (ord.filter p).filter (fun y => !decide (y = x)) := by
    rw [List.filter_filter]
    exact List.filter_congr (fun y _ => by rw [hp y, Bool.and_comm])
  have hnd2 : (x :: t).Nodup := by rw [← h]; exact hnd.filter _
  rw [e, h, List.filter_cons_of_neg (by simp), List.filter_eq_self.mpr]
  intro y hy
  have : y ≠ x := fun q => (List.nodup_cons.mp hnd2).1 (q ▸ hy)
  simp [this]
theorem fl_len {ord : List Nat} {p q : Nat → Bool} (h : ∀ x, p x = true → q x = true → False) : (ord.filter p).length + (ord.filter q).length ≤ ord.length := by
  induction ord with
  | nil => simp
  | cons x l ih =>
    by_cases hp : p x = true
    · have hq : ¬ q x = true := fun z => h x hp z
      rw [List.filter_cons_of_pos hp, List.filter_cons_of_neg hq]
      simp only [List.length_cons]
      omega
    · rw [List.filter_cons_of_neg hp]
      by_cases hq : q x = true
      · rw [List.filter_cons_of_pos hq]
        simp only [List.length_cons]
        omega
      · rw [List.filter_cons_of_neg hq]
        simp only [List.length_cons]
        omega
theorem lnp_lt {n : Nat} {w : Int32} {La : Nat → Int32} {l : Int32} {ord : List Nat} {x : Nat} (h : x ∈ ord.filter (s_lnp n w La l)) : x < n ∧ bt w x = true ∧ La x = l := by
  have := (List.mem_filter.mp h).2
  simpa [s_lnp, and_assoc] using this

set_option maxRecDepth 100000 in
theorem c_next104 (σ : xSg) (n : Nat) (ord : List Nat) (still la : Int32) (o0 o1 : Bool) (hn10 : n ≤ 10) (hn : σ 1 0 = nI n) (ho : ordOk ord (fun i => ([0, 1, 2, 3, 4, 5, 6, 7, 8, 9] : List Int32).getD i 0)) : xPu M_X2_nextHead [.ref 26, .int (still), .int (s_ov o0 o1), .ref 104, .int (la)] σ (.int (s_hp (s_pick (atC σ) (decide (la = 0)) (s_opn o0 (ord.filter (s_lnp n still (σ 7) 0))) (s_opn o1 (ord.filter (s_lnp n still (σ 7) 1)))))) := by
  have hlt : ∀ ln, ∀ x ∈ ord.filter (s_lnp n still (σ 7) ln), x < 10 := fun ln x hx => by have := (lnp_lt hx).1; omega
  refine ctr_ev ok_X2_nextHead (by decide +kernel) rfl rfl rfl ?_
  show xEv (.inl 3) M_X2_nextHead _ 0 ([some (.ref 26), some (.int (still)), some (.int (s_ov o0 o1)), some (.ref 104), some (.int (la)), none, none], [], σ)
  refine ev_br 3 [] (((s_ov o0 o1) &&& (1 : Int32)) = 0) 16 6 ([some (.ref 26), some (.int (still)), some (.int (s_ov o0 o1)), some (.ref 104), some (.int (la)), none, none], [], σ) rfl ?_ (fun c3 => ?_) (fun c3 => ?_)
  · trivial
  · refine ev_br 5 [] (((s_ov o0 o1) &&& (2 : Int32)) = 0) 35 25 ([some (.ref 26), some (.int (still)), some (.int (s_ov o0 o1)), some (.ref 104), some (.int (la)), some (.int ((-1 : Int32))), none], [], σ) rfl ?_ (fun c22 => ?_) (fun c22 => ?_)
    · trivial
    · refine ev_br 4 [] ((-1 : Int32) = (-1 : Int32)) 50 44 ([some (.ref 26), some (.int (still)), some (.int (s_ov o0 o1)), some (.ref 104), some (.int (la)), some (.int ((-1 : Int32))), some (.int ((-1 : Int32)))], [], σ) rfl ?_ (fun c41 => ?_) (fun c41 => ?_)
      · trivial
      · refine ev_br 2 [] (¬ (-1 : Int32) = (-1 : Int32)) 61 56 ([some (.ref 26), some (.int (still)), some (.int (s_ov o0 o1)), some (.ref 104), some (.int (la)), some (.int ((-1 : Int32))), some (.int ((-1 : Int32)))], [], σ) rfl ?_ (fun c53 => ?_) (fun c53 => ?_)
        · trivial
        · exact absurd rfl c53
        · refine ev_blk 2 [] 63 ([some (.ref 26), some (.int (still)), some (.int (s_ov o0 o1)), some (.ref 104), some (.int (la)), some (.int ((-1 : Int32))), some (.int ((-1 : Int32)))], [.int ((-1 : Int32))], σ) rfl ?_ ?_
          · trivial
          have hA : (s_opn o0 (ord.filter (s_lnp n still (σ 7) 0))) = [] := by rw [(s_ov_1 o0 o1).mp c3]; rfl
          have hB : (s_opn o1 (ord.filter (s_lnp n still (σ 7) 1))) = [] := by rw [(s_ov_2 o0 o1).mp c22]; rfl
          exact ev_iret rfl rfl rfl ⟨by rw [s_pk_n hA hB]; rfl, rfl⟩
      · exact absurd rfl c41
    · refine ev_blk 4 [] 29 ([some (.ref 26), some (.int (still)), some (.int (s_ov o0 o1)), some (.ref 104), some (.int (la)), some (.int ((-1 : Int32))), none], [.ref 104, .int (still), .int ((1 : Int32)), .ref 26], σ) rfl ?_ ?_
      · trivial
      refine ev_callV M_X2_head [.int ((1 : Int32)), .int (still), .ref 104] [] 26 rfl rfl ln_X2_91 k_X2_head rfl rfl rfl rfl rfl rfl (c_head104 σ n ord still _ hn10 hn ho) ?_
      refine pu_k ?_
      show xEv _ _ _ 32 ([some (.ref 26), some (.int (still)), some (.int (s_ov o0 o1)), some (.ref 104), some (.int (la)), some (.int ((-1 : Int32))), none], [.int (s_hd (ord.filter (s_lnp n still (σ 7) (1 : Int32))))], σ)
      refine ev_br 4 [] ((-1 : Int32) = (-1 : Int32)) 50 44 ([some (.ref 26), some (.int (still)), some (.int (s_ov o0 o1)), some (.ref 104), some (.int (la)), some (.int ((-1 : Int32))), some (.int (s_hd (ord.filter (s_lnp n still (σ 7) (1 : Int32)))))], [], σ) rfl ?_ (fun c41 => ?_) (fun c41 => ?_)
      · trivial
      · refine ev_br 2 [] (¬ (-1 : Int32) = (-1 : Int32)) 61 56 ([some (.ref 26), some (.int (still)), some (.int (s_ov o0 o1)), some (.ref 104), some (.int (la)), some (.int ((-1 : Int32))), some (.int (s_hd (ord.filter (s_lnp n still (σ 7) (1 : Int32)))))], [], σ) rfl ?_ (fun c53 => ?_) (fun c53 => ?_)
        · trivial
        · exact absurd rfl c53
        · refine ev_blk 2 [] 63 ([some (.ref 26), some (.int (still)), some (.int (s_ov o0 o1)), some (.ref 104), some (.int (la)), some (.int ((-1 : Int32))), some (.int (s_hd (ord.filter (s_lnp n still (σ 7) (1 : Int32)))))], [.int (s_hd (ord.filter (s_lnp n still (σ 7) (1 : Int32))))], σ) rfl ?_ ?_
          · trivial
          have hA : (s_opn o0 (ord.filter (s_lnp n still (σ 7) 0))) = [] := by rw [(s_ov_1 o0 o1).mp c3]; rfl
          have ho1 : o1 = true := by cases h : o1 with | true => rfl | false => exact absurd ((s_ov_2 o0 o1).mpr h) c22
          have eB : (s_opn o1 (ord.filter (s_lnp n still (σ 7) 1))) = ord.filter (s_lnp n still (σ 7) 1) := by rw [ho1]; rfl
          refine ev_iret rfl rfl rfl ⟨?_, rfl⟩
          cases hB : ord.filter (s_lnp n still (σ 7) 1) with
          | nil => rw [s_pk_n hA (show s_opn o1 [] = [] by rw [ho1]; rfl)]; rfl
          | cons y u => rw [s_pk_1 hA (show s_opn o1 (y :: u) = y :: u by rw [ho1]; rfl)]; rfl
      · exact absurd rfl c41
  · refine ev_blk 4 [] 10 ([some (.ref 26), some (.int (still)), some (.int (s_ov o0 o1)), some (.ref 104), some (.int (la)), none, none], [.ref 104, .int (still), .int ((0 : Int32)), .ref 26], σ) rfl ?_ ?_
    · trivial
    refine ev_callV M_X2_head [.int ((0 : Int32)), .int (still), .ref 104] [] 26 rfl rfl ln_X2_91 k_X2_head rfl rfl rfl rfl rfl rfl (c_head104 σ n ord still _ hn10 hn ho) ?_
    refine pu_k ?_
    show xEv _ _ _ 13 ([some (.ref 26), some (.int (still)), some (.int (s_ov o0 o1)), some (.ref 104), some (.int (la)), none, none], [.int (s_hd (ord.filter (s_lnp n still (σ 7) (0 : Int32))))], σ)
    refine ev_br 5 [] (((s_ov o0 o1) &&& (2 : Int32)) = 0) 35 25 ([some (.ref 26), some (.int (still)), some (.int (s_ov o0 o1)), some (.ref 104), some (.int (la)), some (.int (s_hd (ord.filter (s_lnp n still (σ 7) (0 : Int32))))), none], [], σ) rfl ?_ (fun c22 => ?_) (fun c22 => ?_)
    · trivial
    · refine ev_br 4 [] ((s_hd (ord.filter (s_lnp n still (σ 7) (0 : Int32)))) = (-1 : Int32)) 50 44 ([some (.ref 26), some (.int (still)), some (.int (s_ov o0 o1)), some (.ref 104), some (.int (la)), some (.int (s_hd (ord.filter (s_lnp n still (σ 7) (0 : Int32))))), some (.int ((-1 : Int32)))], [], σ) rfl ?_ (fun c41 => ?_) (fun c41 => ?_)
      · trivial
      · refine ev_br 2 [] (¬ (s_hd (ord.filter (s_lnp n still (σ 7) (0 : Int32)))) = (-1 : Int32)) 61 56 ([some (.ref 26), some (.int (still)), some (.int (s_ov o0 o1)), some (.ref 104), some (.int (la)), some (.int (s_hd (ord.filter (s_lnp n still (σ 7) (0 : Int32))))), some (.int ((-1 : Int32)))], [], σ) rfl ?_ (fun c53 => ?_) (fun c53 => ?_)
        · trivial
        · exact absurd c41 c53
        · refine ev_blk 2 [] 63 ([some (.ref 26), some (.int (still)), some (.int (s_ov o0 o1)), some (.ref 104), some (.int (la)), some (.int (s_hd (ord.filter (s_lnp n still (σ 7) (0 : Int32))))), some (.int ((-1 : Int32)))], [.int ((-1 : Int32))], σ) rfl ?_ ?_
          · trivial
          have ho0 : o0 = true := by cases h : o0 with | true => rfl | false => exact absurd ((s_ov_1 o0 o1).mpr h) c3
          have eA : (s_opn o0 (ord.filter (s_lnp n still (σ 7) 0))) = ord.filter (s_lnp n still (σ 7) 0) := by rw [ho0]; rfl
          have hB : (s_opn o1 (ord.filter (s_lnp n still (σ 7) 1))) = [] := by rw [(s_ov_2 o0 o1).mp c22]; rfl
          have hA : (s_opn o0 (ord.filter (s_lnp n still (σ 7) 0))) = [] := by rw [eA]; exact (s_hd_nil (hlt 0)).mp c41
          exact ev_iret rfl rfl rfl ⟨by rw [s_pk_n hA hB]; rfl, rfl⟩
      · refine ev_br 2 [] (¬ (-1 : Int32) = (-1 : Int32)) 64 50 ([some (.ref 26), some (.int (still)), some (.int (s_ov o0 o1)), some (.ref 104), some (.int (la)), some (.int (s_hd (ord.filter (s_lnp n still (σ 7) (0 : Int32))))), some (.int ((-1 : Int32)))], [], σ) rfl ?_ (fun c47 => ?_) (fun c47 => ?_)
        · trivial
        · exact absurd rfl c47
        · refine ev_br 2 [] (¬ (s_hd (ord.filter (s_lnp n still (σ 7) (0 : Int32)))) = (-1 : Int32)) 61 56 ([some (.ref 26), some (.int (still)), some (.int (s_ov o0 o1)), some (.ref 104), some (.int (la)), some (.int (s_hd (ord.filter (s_lnp n still (σ 7) (0 : Int32))))), some (.int ((-1 : Int32)))], [], σ) rfl ?_ (fun c53 => ?_) (fun c53 => ?_)
          · trivial
          · refine ev_blk 1 [] 63 ([some (.ref 26), some (.int (still)), some (.int (s_ov o0 o1)), some (.ref 104), some (.int (la)), some (.int (s_hd (ord.filter (s_lnp n still (σ 7) (0 : Int32))))), some (.int ((-1 : Int32)))], [.int (s_hd (ord.filter (s_lnp n still (σ 7) (0 : Int32))))], σ) rfl ?_ ?_
            · trivial
            have ho0 : o0 = true := by cases h : o0 with | true => rfl | false => exact absurd ((s_ov_1 o0 o1).mpr h) c3
            have eA : (s_opn o0 (ord.filter (s_lnp n still (σ 7) 0))) = ord.filter (s_lnp n still (σ 7) 0) := by rw [ho0]; rfl
            have hB : (s_opn o1 (ord.filter (s_lnp n still (σ 7) 1))) = [] := by rw [(s_ov_2 o0 o1).mp c22]; rfl
            have hA : (s_opn o0 (ord.filter (s_lnp n still (σ 7) 0))) ≠ [] := by rw [eA]; exact fun q => c41 ((s_hd_nil (hlt 0)).mpr q)
            refine ev_iret rfl rfl rfl ⟨?_, rfl⟩
            cases hA2 : ord.filter (s_lnp n still (σ 7) 0) with
            | nil => exact absurd (eA.trans hA2) hA
            | cons x t => rw [s_pk_0 (show s_opn o0 (x :: t) = x :: t by rw [ho0]; rfl) hB]; rfl
          · exact absurd (Classical.byContradiction c53) c41
    · refine ev_blk 4 [] 29 ([some (.ref 26), some (.int (still)), some (.int (s_ov o0 o1)), some (.ref 104), some (.int (la)), some (.int (s_hd (ord.filter (s_lnp n still (σ 7) (0 : Int32))))), none], [.ref 104, .int (still), .int ((1 : Int32)), .ref 26], σ) rfl ?_ ?_
      · trivial
      refine ev_callV M_X2_head [.int ((1 : Int32)), .int (still), .ref 104] [] 26 rfl rfl ln_X2_91 k_X2_head rfl rfl rfl rfl rfl rfl (c_head104 σ n ord still _ hn10 hn ho) ?_
      refine pu_k ?_
      show xEv _ _ _ 32 ([some (.ref 26), some (.int (still)), some (.int (s_ov o0 o1)), some (.ref 104), some (.int (la)), some (.int (s_hd (ord.filter (s_lnp n still (σ 7) (0 : Int32))))), none], [.int (s_hd (ord.filter (s_lnp n still (σ 7) (1 : Int32))))], σ)
      refine ev_br 4 [] ((s_hd (ord.filter (s_lnp n still (σ 7) (0 : Int32)))) = (-1 : Int32)) 50 44 ([some (.ref 26), some (.int (still)), some (.int (s_ov o0 o1)), some (.ref 104), some (.int (la)), some (.int (s_hd (ord.filter (s_lnp n still (σ 7) (0 : Int32))))), some (.int (s_hd (ord.filter (s_lnp n still (σ 7) (1 : Int32)))))], [], σ) rfl ?_ (fun c41 => ?_) (fun c41 => ?_)
      · trivial
      · refine ev_br 2 [] (¬ (s_hd (ord.filter (s_lnp n still (σ 7) (0 : Int32)))) = (-1 : Int32)) 61 56 ([some (.ref 26), some (.int (still)), some (.int (s_ov o0 o1)), some (.ref 104), some (.int (la)), some (.int (s_hd (ord.filter (s_lnp n still (σ 7) (0 : Int32))))), some (.int (s_hd (ord.filter (s_lnp n still (σ 7) (1 : Int32)))))], [], σ) rfl ?_ (fun c53 => ?_) (fun c53 => ?_)
        · trivial
        · exact absurd c41 c53
        · refine ev_blk 2 [] 63 ([some (.ref 26), some (.int (still)), some (.int (s_ov o0 o1)), some (.ref 104), some (.int (la)), some (.int (s_hd (ord.filter (s_lnp n still (σ 7) (0 : Int32))))), some (.int (s_hd (ord.filter (s_lnp n still (σ 7) (1 : Int32)))))], [.int (s_hd (ord.filter (s_lnp n still (σ 7) (1 : Int32))))], σ) rfl ?_ ?_
          · trivial
          have ho0 : o0 = true := by cases h : o0 with | true => rfl | false => exact absurd ((s_ov_1 o0 o1).mpr h) c3
          have eA : (s_opn o0 (ord.filter (s_lnp n still (σ 7) 0))) = ord.filter (s_lnp n still (σ 7) 0) := by rw [ho0]; rfl
          have ho1 : o1 = true := by cases h : o1 with | true => rfl | false => exact absurd ((s_ov_2 o0 o1).mpr h) c22
          have eB : (s_opn o1 (ord.filter (s_lnp n still (σ 7) 1))) = ord.filter (s_lnp n still (σ 7) 1) := by rw [ho1]; rfl
          have hA : (s_opn o0 (ord.filter (s_lnp n still (σ 7) 0))) = [] := by rw [eA]; exact (s_hd_nil (hlt 0)).mp c41
          refine ev_iret rfl rfl rfl ⟨?_, rfl⟩
          cases hB : ord.filter (s_lnp n still (σ 7) 1) with
          | nil => rw [s_pk_n hA (show s_opn o1 [] = [] by rw [ho1]; rfl)]; rfl
          | cons y u => rw [s_pk_1 hA (show s_opn o1 (y :: u) = y :: u by rw [ho1]; rfl)]; rfl
      · refine ev_br 2 [] (¬ (s_hd (ord.filter (s_lnp n still (σ 7) (1 : Int32)))) = (-1 : Int32)) 64 50 ([some (.ref 26), some (.int (still)), some (.int (s_ov o0 o1)), some (.ref 104), some (.int (la)), some (.int (s_hd (ord.filter (s_lnp n still (σ 7) (0 : Int32))))), some (.int (s_hd (ord.filter (s_lnp n still (σ 7) (1 : Int32)))))], [], σ) rfl ?_ (fun c47 => ?_) (fun c47 => ?_)
        · trivial
        · refine ev_blk 4 [] 71 ([some (.ref 26), some (.int (still)), some (.int (s_ov o0 o1)), some (.ref 104), some (.int (la)), some (.int (s_hd (ord.filter (s_lnp n still (σ 7) (0 : Int32))))), some (.int (s_hd (ord.filter (s_lnp n still (σ 7) (1 : Int32)))))], [.int (la), .int (s_hd (ord.filter (s_lnp n still (σ 7) (1 : Int32)))), .int (s_hd (ord.filter (s_lnp n still (σ 7) (0 : Int32)))), .ref 26], σ) rfl ?_ ?_
          · trivial
          have ho0 : o0 = true := by cases h : o0 with | true => rfl | false => exact absurd ((s_ov_1 o0 o1).mpr h) c3
          have eA : (s_opn o0 (ord.filter (s_lnp n still (σ 7) 0))) = ord.filter (s_lnp n still (σ 7) 0) := by rw [ho0]; rfl
          have ho1 : o1 = true := by cases h : o1 with | true => rfl | false => exact absurd ((s_ov_2 o0 o1).mpr h) c22
          have eB : (s_opn o1 (ord.filter (s_lnp n still (σ 7) 1))) = ord.filter (s_lnp n still (σ 7) 1) := by rw [ho1]; rfl
          cases hA2 : ord.filter (s_lnp n still (σ 7) 0) with
          | nil => exact absurd ((s_hd_nil (hlt 0)).mpr hA2) c41
          | cons x t =>
            cases hB2 : ord.filter (s_lnp n still (σ 7) 1) with
            | nil => exact absurd ((s_hd_nil (hlt 1)).mpr hB2) c47
            | cons y u =>
              show xEv _ _ _ 71 ([some (.ref 26), some (.int (still)), some (.int (s_ov o0 o1)), some (.ref 104), some (.int (la)), some (.int (nI x)), some (.int (nI y))], [.int (la), .int (nI y), .int (nI x), .ref 26], σ)
              have hxn := lnp_lt (show x ∈ ord.filter (s_lnp n still (σ 7) 0) by rw [hA2]; exact List.mem_cons_self)
              have hyn := lnp_lt (show y ∈ ord.filter (s_lnp n still (σ 7) 1) by rw [hB2]; exact List.mem_cons_self)
              rw [show s_opn o0 (x :: t) = x :: t by rw [ho0]; rfl, show s_opn o1 (y :: u) = y :: u by rw [ho1]; rfl]
              refine ev_callV M_X2_isSecondTaken [.int (nI x), .int (nI y), .int (la)] [] 26 rfl rfl ln_X2_95 k_X2_isSecondTaken rfl rfl rfl rfl rfl rfl (c_sec σ n x y la hn10 hn hxn.1 hyn.1) ?_
              refine pu_k ?_
              show xEv _ _ _ 74 ([some (.ref 26), some (.int (still)), some (.int (s_ov o0 o1)), some (.ref 104), some (.int (la)), some (.int (nI x)), some (.int (nI y))], [.int (zi (s_sec (atC σ) x y (decide (la = 0)) = true))], σ)
              refine ev_br 0 [] ((zi (s_sec (atC σ) x y (decide (la = 0)) = true)) = 0) 82 77 ([some (.ref 26), some (.int (still)), some (.int (s_ov o0 o1)), some (.ref 104), some (.int (la)), some (.int (nI x)), some (.int (nI y))], [], σ) rfl ?_ (fun c74 => ?_) (fun c74 => ?_)
              · trivial
              · replace c74 := zi_0.mp c74
                refine ev_blk 1 [] 84 ([some (.ref 26), some (.int (still)), some (.int (s_ov o0 o1)), some (.ref 104), some (.int (la)), some (.int (nI x)), some (.int (nI y))], [.int (nI x)], σ) rfl ?_ ?_
                · trivial
                exact ev_iret rfl rfl rfl ⟨by rw [s_pk_2 rfl rfl, if_neg c74]; rfl, rfl⟩
              · replace c74 := zi_1.mp c74
                refine ev_blk 2 [] 84 ([some (.ref 26), some (.int (still)), some (.int (s_ov o0 o1)), some (.ref 104), some (.int (la)), some (.int (nI x)), some (.int (nI y))], [.int (nI y)], σ) rfl ?_ ?_
                · trivial
                exact ev_iret rfl rfl rfl ⟨by rw [s_pk_2 rfl rfl, if_pos c74]; rfl, rfl⟩
        · refine ev_br 2 [] (¬ (s_hd (ord.filter (s_lnp n still (σ 7) (0 : Int32)))) = (-1 : Int32)) 61 56 ([some (.ref 26), some (.int (still)), some (.int (s_ov o0 o1)), some (.ref 104), some (.int (la)), some (.int (s_hd (ord.filter (s_lnp n still (σ 7) (0 : Int32))))), some (.int (s_hd (ord.filter (s_lnp n still (σ 7) (1 : Int32)))))], [], σ) rfl ?_ (fun c53 => ?_) (fun c53 => ?_)
          · trivial
          · refine ev_blk 1 [] 63 ([some (.ref 26), some (.int (still)), some (.int (s_ov o0 o1)), some (.ref 104), some (.int (la)), some (.int (s_hd (ord.filter (s_lnp n still (σ 7) (0 : Int32))))), some (.int (s_hd (ord.filter (s_lnp n still (σ 7) (1 : Int32)))))], [.int (s_hd (ord.filter (s_lnp n still (σ 7) (0 : Int32))))], σ) rfl ?_ ?_
            · trivial
            have ho0 : o0 = true := by cases h : o0 with | true => rfl | false => exact absurd ((s_ov_1 o0 o1).mpr h) c3
            have eA : (s_opn o0 (ord.filter (s_lnp n still (σ 7) 0))) = ord.filter (s_lnp n still (σ 7) 0) := by rw [ho0]; rfl
            have ho1 : o1 = true := by cases h : o1 with | true => rfl | false => exact absurd ((s_ov_2 o0 o1).mpr h) c22
            have eB : (s_opn o1 (ord.filter (s_lnp n still (σ 7) 1))) = ord.filter (s_lnp n still (σ 7) 1) := by rw [ho1]; rfl
            have hA : (s_opn o0 (ord.filter (s_lnp n still (σ 7) 0))) ≠ [] := by rw [eA]; exact fun q => c41 ((s_hd_nil (hlt 0)).mpr q)
            have hB : (s_opn o1 (ord.filter (s_lnp n still (σ 7) 1))) = [] := by rw [eB]; exact (s_hd_nil (hlt 1)).mp (Classical.byContradiction c47)
            refine ev_iret rfl rfl rfl ⟨?_, rfl⟩
            cases hA2 : ord.filter (s_lnp n still (σ 7) 0) with
            | nil => exact absurd (eA.trans hA2) hA
            | cons x t => rw [s_pk_0 (show s_opn o0 (x :: t) = x :: t by rw [ho0]; rfl) hB]; rfl
          · exact absurd (Classical.byContradiction c53) c41
set_option maxRecDepth 100000 in
theorem c_next32 (σ : xSg) (n : Nat) (ord : List Nat) (still la : Int32) (o0 o1 : Bool) (hn10 : n ≤ 10) (hn : σ 1 0 = nI n) (ho : ordOk ord (σ 32)) : xPu M_X2_nextHead [.ref 26, .int (still), .int (s_ov o0 o1), .ref 32, .int (la)] σ (.int (s_hp (s_pick (atC σ) (decide (la = 0)) (s_opn o0 (ord.filter (s_lnp n still (σ 7) 0))) (s_opn o1 (ord.filter (s_lnp n still (σ 7) 1)))))) := by
  have hlt : ∀ ln, ∀ x ∈ ord.filter (s_lnp n still (σ 7) ln), x < 10 := fun ln x hx => by have := (lnp_lt hx).1; omega
  refine ctr_ev ok_X2_nextHead (by decide +kernel) rfl rfl rfl ?_
  show xEv (.inl 3) M_X2_nextHead _ 0 ([some (.ref 26), some (.int (still)), some (.int (s_ov o0 o1)), some (.ref 32), some (.int (la)), none, none], [], σ)
  refine ev_br 3 [] (((s_ov o0 o1) &&& (1 : Int32)) = 0) 16 6 ([some (.ref 26), some (.int (still)), some (.int (s_ov o0 o1)), some (.ref 32), some (.int (la)), none, none], [], σ) rfl ?_ (fun c3 => ?_) (fun c3 => ?_)
  · trivial
  · refine ev_br 5 [] (((s_ov o0 o1) &&& (2 : Int32)) = 0) 35 25 ([some (.ref 26), some (.int (still)), some (.int (s_ov o0 o1)), some (.ref 32), some (.int (la)), some (.int ((-1 : Int32))), none], [], σ) rfl ?_ (fun c22 => ?_) (fun c22 => ?_)
    · trivial
    · refine ev_br 4 [] ((-1 : Int32) = (-1 : Int32)) 50 44 ([some (.ref 26), some (.int (still)), some (.int (s_ov o0 o1)), some (.ref 32), some (.int (la)), some (.int ((-1 : Int32))), some (.int ((-1 : Int32)))], [], σ) rfl ?_ (fun c41 => ?_) (fun c41 => ?_)
      · trivial
      · refine ev_br 2 [] (¬ (-1 : Int32) = (-1 : Int32)) 61 56 ([some (.ref 26), some (.int (still)), some (.int (s_ov o0 o1)), some (.ref 32), some (.int (la)), some (.int ((-1 : Int32))), some (.int ((-1 : Int32)))], [], σ) rfl ?_ (fun c53 => ?_) (fun c53 => ?_)
        · trivial
        · exact absurd rfl c53
        · refine ev_blk 2 [] 63 ([some (.ref 26), some (.int (still)), some (.int (s_ov o0 o1)), some (.ref 32), some (.int (la)), some (.int ((-1 : Int32))), some (.int ((-1 : Int32)))], [.int ((-1 : Int32))], σ) rfl ?_ ?_
          · trivial
          have hA : (s_opn o0 (ord.filter (s_lnp n still (σ 7) 0))) = [] := by rw [(s_ov_1 o0 o1).mp c3]; rfl
          have hB : (s_opn o1 (ord.filter (s_lnp n still (σ 7) 1))) = [] := by rw [(s_ov_2 o0 o1).mp c22]; rfl
          exact ev_iret rfl rfl rfl ⟨by rw [s_pk_n hA hB]; rfl, rfl⟩
      · exact absurd rfl c41
    · refine ev_blk 4 [] 29 ([some (.ref 26), some (.int (still)), some (.int (s_ov o0 o1)), some (.ref 32), some (.int (la)), some (.int ((-1 : Int32))), none], [.ref 32, .int (still), .int ((1 : Int32)), .ref 26], σ) rfl ?_ ?_
      · trivial
      refine ev_callV M_X2_head [.int ((1 : Int32)), .int (still), .ref 32] [] 26 rfl rfl ln_X2_91 k_X2_head rfl rfl rfl rfl rfl rfl (c_head32 σ n ord still _ hn10 hn ho) ?_
      refine pu_k ?_
      show xEv _ _ _ 32 ([some (.ref 26), some (.int (still)), some (.int (s_ov o0 o1)), some (.ref 32), some (.int (la)), some (.int ((-1 : Int32))), none], [.int (s_hd (ord.filter (s_lnp n still (σ 7) (1 : Int32))))], σ)
      refine ev_br 4 [] ((-1 : Int32) = (-1 : Int32)) 50 44 ([some (.ref 26), some (.int (still)), some (.int (s_ov o0 o1)), some (.ref 32), some (.int (la)), some (.int ((-1 : Int32))), some (.int (s_hd (ord.filter (s_lnp n still (σ 7) (1 : Int32)))))], [], σ) rfl ?_ (fun c41 => ?_) (fun c41 => ?_)
      · trivial
      · refine ev_br 2 [] (¬ (-1 : Int32) = (-1 : Int32)) 61 56 ([some (.ref 26), some (.int (still)), some (.int (s_ov o0 o1)), some (.ref 32), some (.int (la)), some (.int ((-1 : Int32))), some (.int (s_hd (ord.filter (s_lnp n still (σ 7) (1 : Int32)))))], [], σ) rfl ?_ (fun c53 => ?_) (fun c53 => ?_)
        · trivial
        · exact absurd rfl c53
        · refine ev_blk 2 [] 63 ([some (.ref 26), some (.int (still)), some (.int (s_ov o0 o1)), some (.ref 32), some (.int (la)), some (.int ((-1 : Int32))), some (.int (s_hd (ord.filter (s_lnp n still (σ 7) (1 : Int32)))))], [.int (s_hd (ord.filter (s_lnp n still (σ 7) (1 : Int32))))], σ) rfl ?_ ?_
          · trivial
          have hA : (s_opn o0 (ord.filter (s_lnp n still (σ 7) 0))) = [] := by rw [(s_ov_1 o0 o1).mp c3]; rfl
          have ho1 : o1 = true := by cases h : o1 with | true => rfl | false => exact absurd ((s_ov_2 o0 o1).mpr h) c22
          have eB : (s_opn o1 (ord.filter (s_lnp n still (σ 7) 1))) = ord.filter (s_lnp n still (σ 7) 1) := by rw [ho1]; rfl
          refine ev_iret rfl rfl rfl ⟨?_, rfl⟩
          cases hB : ord.filter (s_lnp n still (σ 7) 1) with
          | nil => rw [s_pk_n hA (show s_opn o1 [] = [] by rw [ho1]; rfl)]; rfl
          | cons y u => rw [s_pk_1 hA (show s_opn o1 (y :: u) = y :: u by rw [ho1]; rfl)]; rfl
      · exact absurd rfl c41
  · refine ev_blk 4 [] 10 ([some (.ref 26), some (.int (still)), some (.int (s_ov o0 o1)), some (.ref 32), some (.int (la)), none, none], [.ref 32, .int (still), .int ((0 : Int32)), .ref 26], σ) rfl ?_ ?_
    · trivial
    refine ev_callV M_X2_head [.int ((0 : Int32)), .int (still), .ref 32] [] 26 rfl rfl ln_X2_91 k_X2_head rfl rfl rfl rfl rfl rfl (c_head32 σ n ord still _ hn10 hn ho) ?_
    refine pu_k ?_
    show xEv _ _ _ 13 ([some (.ref 26), some (.int (still)), some (.int (s_ov o0 o1)), some (.ref 32), some (.int (la)), none, none], [.int (s_hd (ord.filter (s_lnp n still (σ 7) (0 : Int32))))], σ)
    refine ev_br 5 [] (((s_ov o0 o1) &&& (2 : Int32)) = 0) 35 25 ([some (.ref 26), some (.int (still)), some (.int (s_ov o0 o1)), some (.ref 32), some (.int (la)), some (.int (s_hd (ord.filter (s_lnp n still (σ 7) (0 : Int32))))), none], [], σ) rfl ?_ (fun c22 => ?_) (fun c22 => ?_)
    · trivial
    · refine ev_br 4 [] ((s_hd (ord.filter (s_lnp n still (σ 7) (0 : Int32)))) = (-1 : Int32)) 50 44 ([some (.ref 26), some (.int (still)), some (.int (s_ov o0 o1)), some (.ref 32), some (.int (la)), some (.int (s_hd (ord.filter (s_lnp n still (σ 7) (0 : Int32))))), some (.int ((-1 : Int32)))], [], σ) rfl ?_ (fun c41 => ?_) (fun c41 => ?_)
      · trivial
      · refine ev_br 2 [] (¬ (s_hd (ord.filter (s_lnp n still (σ 7) (0 : Int32)))) = (-1 : Int32)) 61 56 ([some (.ref 26), some (.int (still)), some (.int (s_ov o0 o1)), some (.ref 32), some (.int (la)), some (.int (s_hd (ord.filter (s_lnp n still (σ 7) (0 : Int32))))), some (.int ((-1 : Int32)))], [], σ) rfl ?_ (fun c53 => ?_) (fun c53 => ?_)
        · trivial
        · exact absurd c41 c53
        · refine ev_blk 2 [] 63 ([some (.ref 26), some (.int (still)), some (.int (s_ov o0 o1)), some (.ref 32), some (.int (la)), some (.int (s_hd (ord.filter (s_lnp n still (σ 7) (0 : Int32))))), some (.int ((-1 : Int32)))], [.int ((-1 : Int32))], σ) rfl ?_ ?_
          · trivial
          have ho0 : o0 = true := by cases h : o0 with | true => rfl | false => exact absurd ((s_ov_1 o0 o1).mpr h) c3
          have eA : (s_opn o0 (ord.filter (s_lnp n still (σ 7) 0))) = ord.filter (s_lnp n still (σ 7) 0) := by rw [ho0]; rfl
          have hB : (s_opn o1 (ord.filter (s_lnp n still (σ 7) 1))) = [] := by rw [(s_ov_2 o0 o1).mp c22]; rfl
          have hA : (s_opn o0 (ord.filter (s_lnp n still (σ 7) 0))) = [] := by rw [eA]; exact (s_hd_nil (hlt 0)).mp c41
          exact ev_iret rfl rfl rfl ⟨by rw [s_pk_n hA hB]; rfl, rfl⟩
      · refine ev_br 2 [] (¬ (-1 : Int32) = (-1 : Int32)) 64 50 ([some (.ref 26), some (.int (still)), some (.int (s_ov o0 o1)), some (.ref 32), some (.int (la)), some (.int (s_hd (ord.filter (s_lnp n still (σ 7) (0 : Int32))))), some (.int ((-1 : Int32)))], [], σ) rfl ?_ (fun c47 => ?_) (fun c47 => ?_)
        · trivial
        · exact absurd rfl c47
        · refine ev_br 2 [] (¬ (s_hd (ord.filter (s_lnp n still (σ 7) (0 : Int32)))) = (-1 : Int32)) 61 56 ([some (.ref 26), some (.int (still)), some (.int (s_ov o0 o1)), some (.ref 32), some (.int (la)), some (.int (s_hd (ord.filter (s_lnp n still (σ 7) (0 : Int32))))), some (.int ((-1 : Int32)))], [], σ) rfl ?_ (fun c53 => ?_) (fun c53 => ?_)
          · trivial
          · refine ev_blk 1 [] 63 ([some (.ref 26), some (.int (still)), some (.int (s_ov o0 o1)), some (.ref 32), some (.int (la)), some (.int (s_hd (ord.filter (s_lnp n still (σ 7) (0 : Int32))))), some (.int ((-1 : Int32)))], [.int (s_hd (ord.filter (s_lnp n still (σ 7) (0 : Int32))))], σ) rfl ?_ ?_
            · trivial
            have ho0 : o0 = true := by cases h : o0 with | true => rfl | false => exact absurd ((s_ov_1 o0 o1).mpr h) c3
            have eA : (s_opn o0 (ord.filter (s_lnp n still (σ 7) 0))) = ord.filter (s_lnp n still (σ 7) 0) := by rw [ho0]; rfl
            have hB : (s_opn o1 (ord.filter (s_lnp n still (σ 7) 1))) = [] := by rw [(s_ov_2 o0 o1).mp c22]; rfl
            have hA : (s_opn o0 (ord.filter (s_lnp n still (σ 7) 0))) ≠ [] := by rw [eA]; exact fun q => c41 ((s_hd_nil (hlt 0)).mpr q)
            refine ev_iret rfl rfl rfl ⟨?_, rfl⟩
            cases hA2 : ord.filter (s_lnp n still (σ 7) 0) with
            | nil => exact absurd (eA.trans hA2) hA
            | cons x t => rw [s_pk_0 (show s_opn o0 (x :: t) = x :: t by rw [ho0]; rfl) hB]; rfl
          · exact absurd (Classical.byContradiction c53) c41
    · refine ev_blk 4 [] 29 ([some (.ref 26), some (.int (still)), some (.int (s_ov o0 o1)), some (.ref 32), some (.int (la)), some (.int (s_hd (ord.filter (s_lnp n still (σ 7) (0 : Int32))))), none], [.ref 32, .int (still), .int ((1 : Int32)), .ref 26], σ) rfl ?_ ?_
      · trivial
      refine ev_callV M_X2_head [.int ((1 : Int32)), .int (still), .ref 32] [] 26 rfl rfl ln_X2_91 k_X2_head rfl rfl rfl rfl rfl rfl (c_head32 σ n ord still _ hn10 hn ho) ?_
      refine pu_k ?_
      show xEv _ _ _ 32 ([some (.ref 26), some (.int (still)), some (.int (s_ov o0 o1)), some (.ref 32), some (.int (la)), some (.int (s_hd (ord.filter (s_lnp n still (σ 7) (0 : Int32))))), none], [.int (s_hd (ord.filter (s_lnp n still (σ 7) (1 : Int32))))], σ)
      refine ev_br 4 [] ((s_hd (ord.filter (s_lnp n still (σ 7) (0 : Int32)))) = (-1 : Int32)) 50 44 ([some (.ref 26), some (.int (still)), some (.int (s_ov o0 o1)), some (.ref 32), some (.int (la)), some (.int (s_hd (ord.filter (s_lnp n still (σ 7) (0 : Int32))))), some (.int (s_hd (ord.filter (s_lnp n still (σ 7) (1 : Int32)))))], [], σ) rfl ?_ (fun c41 => ?_) (fun c41 => ?_)
      · trivial
      · refine ev_br 2 [] (¬ (s_hd (ord.filter (s_lnp n still (σ 7) (0 : Int32)))) = (-1 : Int32)) 61 56 ([some (.ref 26), some (.int (still)), some (.int (s_ov o0 o1)), some (.ref 32), some (.int (la)), some (.int (s_hd (ord.filter (s_lnp n still (σ 7) (0 : Int32))))), some (.int (s_hd (ord.filter (s_lnp n still (σ 7) (1 : Int32)))))], [], σ) rfl ?_ (fun c53 => ?_) (fun c53 => ?_)
        · trivial
        · exact absurd c41 c53
        · refine ev_blk 2 [] 63 ([some (.ref 26), some (.int (still)), some (.int (s_ov o0 o1)), some (.ref 32), some (.int (la)), some (.int (s_hd (ord.filter (s_lnp n still (σ 7) (0 : Int32))))), some (.int (s_hd (ord.filter (s_lnp n still (σ 7) (1 : Int32)))))], [.int (s_hd (ord.filter (s_lnp n still (σ 7) (1 : Int32))))], σ) rfl ?_ ?_
          · trivial
          have ho0 : o0 = true := by cases h : o0 with | true => rfl | false => exact absurd ((s_ov_1 o0 o1).mpr h) c3
          have eA : (s_opn o0 (ord.filter (s_lnp n still (σ 7) 0))) = ord.filter (s_lnp n still (σ 7) 0) := by rw [ho0]; rfl
          have ho1 : o1 = true := by cases h : o1 with | true => rfl | false => exact absurd ((s_ov_2 o0 o1).mpr h) c22
          have eB : (s_opn o1 (ord.filter (s_lnp n still (σ 7) 1))) = ord.filter (s_lnp n still (σ 7) 1) := by rw [ho1]; rfl
          have hA : (s_opn o0 (ord.filter (s_lnp n still (σ 7) 0))) = [] := by rw [eA]; exact (s_hd_nil (hlt 0)).mp c41
          refine ev_iret rfl rfl rfl ⟨?_, rfl⟩
          cases hB : ord.filter (s_lnp n still (σ 7) 1) with
          | nil => rw [s_pk_n hA (show s_opn o1 [] = [] by rw [ho1]; rfl)]; rfl
          | cons y u => rw [s_pk_1 hA (show s_opn o1 (y :: u) = y :: u by rw [ho1]; rfl)]; rfl
      · refine ev_br 2 [] (¬ (s_hd (ord.filter (s_lnp n still (σ 7) (1 : Int32)))) = (-1 : Int32)) 64 50 ([some (.ref 26), some (.int (still)), some (.int (s_ov o0 o1)), some (.ref 32), some (.int (la)), some (.int (s_hd (ord.filter (s_lnp n still (σ 7) (0 : Int32))))), some (.int (s_hd (ord.filter (s_lnp n still (σ 7) (1 : Int32)))))], [], σ) rfl ?_ (fun c47 => ?_) (fun c47 => ?_)
        · trivial
        · refine ev_blk 4 [] 71 ([some (.ref 26), some (.int (still)), some (.int (s_ov o0 o1)), some (.ref 32), some (.int (la)), some (.int (s_hd (ord.filter (s_lnp n still (σ 7) (0 : Int32))))), some (.int (s_hd (ord.filter (s_lnp n still (σ 7) (1 : Int32)))))], [.int (la), .int (s_hd (ord.filter (s_lnp n still (σ 7) (1 : Int32)))), .int (s_hd (ord.filter (s_lnp n still (σ 7) (0 : Int32)))), .ref 26], σ) rfl ?_ ?_
          · trivial
          have ho0 : o0 = true := by cases h : o0 with | true => rfl | false => exact absurd ((s_ov_1 o0 o1).mpr h) c3
          have eA : (s_opn o0 (ord.filter (s_lnp n still (σ 7) 0))) = ord.filter (s_lnp n still (σ 7) 0) := by rw [ho0]; rfl
          have ho1 : o1 = true := by cases h : o1 with | true => rfl | false => exact absurd ((s_ov_2 o0 o1).mpr h) c22
          have eB : (s_opn o1 (ord.filter (s_lnp n still (σ 7) 1))) = ord.filter (s_lnp n still (σ 7) 1) := by rw [ho1]; rfl
          cases hA2 : ord.filter (s_lnp n still (σ 7) 0) with
          | nil => exact absurd ((s_hd_nil (hlt 0)).mpr hA2) c41
          | cons x t =>
            cases hB2 : ord.filter (s_lnp n still (σ 7) 1) with
            | nil => exact absurd ((s_hd_nil (hlt 1)).mpr hB2) c47
            | cons y u =>
              show xEv _ _ _ 71 ([some (.ref 26), some (.int (still)), some (.int (s_ov o0 o1)), some (.ref 32), some (.int (la)), some (.int (nI x)), some (.int (nI y))], [.int (la), .int (nI y), .int (nI x), .ref 26], σ)
              have hxn := lnp_lt (show x ∈ ord.filter (s_lnp n still (σ 7) 0) by rw [hA2]; exact List.mem_cons_self)
              have hyn := lnp_lt (show y ∈ ord.filter (s_lnp n still (σ 7) 1) by rw [hB2]; exact List.mem_cons_self)
              rw [show s_opn o0 (x :: t) = x :: t by rw [ho0]; rfl, show s_opn o1 (y :: u) = y :: u by rw [ho1]; rfl]
              refine ev_callV M_X2_isSecondTaken [.int (nI x), .int (nI y), .int (la)] [] 26 rfl rfl ln_X2_95 k_X2_isSecondTaken rfl rfl rfl rfl rfl rfl (c_sec σ n x y la hn10 hn hxn.1 hyn.1) ?_
              refine pu_k ?_
              show xEv _ _ _ 74 ([some (.ref 26), some (.int (still)), some (.int (s_ov o0 o1)), some (.ref 32), some (.int (la)), some (.int (nI x)), some (.int (nI y))], [.int (zi (s_sec (atC σ) x y (decide (la = 0)) = true))], σ)
              refine ev_br 0 [] ((zi (s_sec (atC σ) x y (decide (la = 0)) = true)) = 0) 82 77 ([some (.ref 26), some (.int (still)), some (.int (s_ov o0 o1)), some (.ref 32), some (.int (la)), some (.int (nI x)), some (.int (nI y))], [], σ) rfl ?_ (fun c74 => ?_) (fun c74 => ?_)
              · trivial
              · replace c74 := zi_0.mp c74
                refine ev_blk 1 [] 84 ([some (.ref 26), some (.int (still)), some (.int (s_ov o0 o1)), some (.ref 32), some (.int (la)), some (.int (nI x)), some (.int (nI y))], [.int (nI x)], σ) rfl ?_ ?_
                · trivial
                exact ev_iret rfl rfl rfl ⟨by rw [s_pk_2 rfl rfl, if_neg c74]; rfl, rfl⟩
              · replace c74 := zi_1.mp c74
                refine ev_blk 2 [] 84 ([some (.ref 26), some (.int (still)), some (.int (s_ov o0 o1)), some (.ref 32), some (.int (la)), some (.int (nI x)), some (.int (nI y))], [.int (nI y)], σ) rfl ?_ ?_
                · trivial
                exact ev_iret rfl rfl rfl ⟨by rw [s_pk_2 rfl rfl, if_pos c74]; rfl, rfl⟩
        · refine ev_br 2 [] (¬ (s_hd (ord.filter (s_lnp n still (σ 7) (0 : Int32)))) = (-1 : Int32)) 61 56 ([some (.ref 26), some (.int (still)), some (.int (s_ov o0 o1)), some (.ref 32), some (.int (la)), some (.int (s_hd (ord.filter (s_lnp n still (σ 7) (0 : Int32))))), some (.int (s_hd (ord.filter (s_lnp n still (σ 7) (1 : Int32)))))], [], σ) rfl ?_ (fun c53 => ?_) (fun c53 => ?_)
          · trivial
          · refine ev_blk 1 [] 63 ([some (.ref 26), some (.int (still)), some (.int (s_ov o0 o1)), some (.ref 32), some (.int (la)), some (.int (s_hd (ord.filter (s_lnp n still (σ 7) (0 : Int32))))), some (.int (s_hd (ord.filter (s_lnp n still (σ 7) (1 : Int32)))))], [.int (s_hd (ord.filter (s_lnp n still (σ 7) (0 : Int32))))], σ) rfl ?_ ?_
            · trivial
            have ho0 : o0 = true := by cases h : o0 with | true => rfl | false => exact absurd ((s_ov_1 o0 o1).mpr h) c3
            have eA : (s_opn o0 (ord.filter (s_lnp n still (σ 7) 0))) = ord.filter (s_lnp n still (σ 7) 0) := by rw [ho0]; rfl
            have ho1 : o1 = true := by cases h : o1 with | true => rfl | false => exact absurd ((s_ov_2 o0 o1).mpr h) c22
            have eB : (s_opn o1 (ord.filter (s_lnp n still (σ 7) 1))) = ord.filter (s_lnp n still (σ 7) 1) := by rw [ho1]; rfl
            have hA : (s_opn o0 (ord.filter (s_lnp n still (σ 7) 0))) ≠ [] := by rw [eA]; exact fun q => c41 ((s_hd_nil (hlt 0)).mpr q)
            have hB : (s_opn o1 (ord.filter (s_lnp n still (σ 7) 1))) = [] := by rw [eB]; exact (s_hd_nil (hlt 1)).mp (Classical.byContradiction c47)
            refine ev_iret rfl rfl rfl ⟨?_, rfl⟩
            cases hA2 : ord.filter (s_lnp n still (σ 7) 0) with
            | nil => exact absurd (eA.trans hA2) hA
            | cons x t => rw [s_pk_0 (show s_opn o0 (x :: t) = x :: t by rw [ho0]; rfl) hB]; rfl
          · exact absurd (Classical.byContradiction c53) c41
