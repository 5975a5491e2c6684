theorem ctr_ev {M : xM} {Q : Option Value → xSg → Prop} {As : List Value} {σ : xSg} (ok : x_ok M) (hpl : plainName (xM_y M).cls = true) (how : (xM_y M).cls = xM_own M) (hcat : As.all x_one = true) (hlen : Nat.ble As.length (xM_maxL M) = true)
    (h : xEv (.inl (xM_lev M)) M Q 0 (x_ini (xM_maxL M) As, [], σ)) : xCtr M As σ Q :=
  ctr_of_ev ok hpl how (fun a ha => Nat.eq_of_beq_eq_true (List.all_eq_true.mp hcat a ha)) (Nat.le_of_ble_eq_true hlen) h
def zi (P : Prop) [Decidable P] : Int32 := if P then 1 else 0
theorem zi_t {P : Prop} [Decidable P] (h : P) : zi P = 1 := by unfold zi; rw [if_pos h]
theorem zi_f {P : Prop} [Decidable P] (h : ¬ P) : zi P = 0 := by unfold zi; rw [if_neg h]
theorem zi_0 {P : Prop} [Decidable P] : zi P = 0 ↔ ¬ P := ⟨fun h q => by rw [zi_t q] at h; exact absurd h (by decide), zi_f⟩
theorem zi_1 {P : Prop} [Decidable P] : ¬ zi P = 0 ↔ P := ⟨fun h => Classical.byContradiction fun q => h (zi_f q), fun h q => zi_0.mp q h⟩
theorem zi_n {P : Prop} [Decidable P] : ¬ ¬ zi P = 0 ↔ ¬ P := ⟨fun h => zi_0.mp (Classical.byContradiction h), fun h q => q (zi_f h)⟩
/-- a call that changes nothing and answers v -/
def xPu (M : xM) (As : List Value) (σ : xSg) (v : Value) : Prop := xCtr M As σ (fun r σ' => r = some v ∧ σ' = σ)
theorem pu_k {o : xO} {M : xM} {Q : Option Value → xSg → Prop} {pc : Nat} {L : List (Option Value)} {rest : List Value} {σ : xSg} {v : Value} (k : xEv o M Q pc (L, v :: rest, σ)) : ∀ (r : Option Value) (σ' : xSg), (r = some v ∧ σ' = σ) → xEv o M Q pc (L, r.toList ++ rest, σ') := by
  rintro r σ' ⟨rfl, rfl⟩
  exact k
theorem pu_t {P : Prop} [Decidable P] {σ : xSg} (h : P) : some (Value.int 1) = some (Value.int (zi P)) ∧ σ = σ := ⟨by rw [zi_t h], rfl⟩
theorem pu_f {P : Prop} [Decidable P] {σ : xSg} (h : ¬ P) : some (Value.int 0) = some (Value.int (zi P)) ∧ σ = σ := ⟨by rw [zi_f h], rfl⟩
theorem nar1 : narrow .boolean (.int 1) = .int 1 := by decide +kernel
theorem nar0 : narrow .boolean (.int 0) = .int 0 := by decide +kernel
theorem zi_nar {P : Prop} [Decidable P] : narrow .boolean (.int (zi P)) = .int (zi P) := by
  by_cases h : P
  · rw [zi_t h]; exact nar1
  · rw [zi_f h]; exact nar0
abbrev iSh (σ : xSg) (x : Int32) : Prop := ¬ x < 0 ∧ ¬ σ 1 0 ≤ x ∧ ¬ (10 : Int32) ≤ x
theorem vpi {x c : Int32} (n : Nat) (hc : c = nI n) (hn : n < 2 ^ 31) (h1 : ¬ x < 0) (h2 : ¬ c ≤ x) : vp_in x n := by
  subst hc
  rw [vp_in_iff]
  rw [Int32.lt_iff_toInt_lt] at h1
  rw [Int32.le_iff_toInt_le, nI_toInt hn] at h2
  have h0 : (0 : Int32).toInt = 0 := by decide
  omega
theorem vpi10 {x : Int32} (h1 : ¬ x < 0) (h2 : ¬ (10 : Int32) ≤ x) : vp_in x 10 := vpi 10 rfl (by decide) h1 h2
theorem vpi10' {x : Int32} (h1 : ¬ x < 0) (h2 : x < 10) : vp_in x 10 := vpi10 h1 (Int32.not_le.mpr h2)
def s_span (K Ln : Nat → Int32) (x : Nat) : Int32 := if K x = 1 then Ln x + 1 else if K x = 2 then 2 * (Ln x + 1) else if K x = 4 then x_mx 1 (Ln x - 1) else if K x = 5 then Ln x + 1 else Ln x
def s_rank (K Fi : Nat → Int32) (x : Nat) : Int32 := if K x = 3 then Fi x + 10 else if K x = 4 then 2 * (Fi x + 10) else Fi x
set_option maxRecDepth 100000 in
theorem c_isShip (σ : xSg) (x : Int32) : xPu M_X3_isShip [.ref 1, .int (x)] σ (.int (zi (iSh σ x))) := by
  refine ctr_ev ok_X3_isShip (by decide +kernel) rfl rfl rfl ?_
  show xEv (.inl 0) M_X3_isShip _ 0 ([some (.ref 1), some (.int (x))], [], σ)
  refine ev_br 1 [] (x < 0) 22 4 ([some (.ref 1), some (.int (x))], [], σ) rfl ?_ (fun c1 => ?_) (fun c1 => ?_)
  · trivial
  · refine ev_blk 1 [] 23 ([some (.ref 1), some (.int (x))], [.int ((0 : Int32))], σ) rfl ?_ ?_
    · trivial
    exact ev_iret rfl rfl nar0 (pu_f (by first | (intro h; exact absurd h.1 (by assumption)) | (simp_all; done) | (simp_all [iSh]; done)))
  · refine ev_br 3 [] ((σ 1 0) ≤ x) 22 12 ([some (.ref 1), some (.int (x))], [], σ) rfl ?_ (fun c9 => ?_) (fun c9 => ?_)
    · trivial
    · refine ev_blk 1 [] 23 ([some (.ref 1), some (.int (x))], [.int ((0 : Int32))], σ) rfl ?_ ?_
      · trivial
      exact ev_iret rfl rfl nar0 (pu_f (by first | (intro h; exact absurd h.1 (by assumption)) | (simp_all; done) | (simp_all [iSh]; done)))
    · refine ev_br 2 [] ((10 : Int32) ≤ x) 22 18 ([some (.ref 1), some (.int (x))], [], σ) rfl ?_ (fun c15 => ?_) (fun c15 => ?_)
      · trivial
      · refine ev_blk 1 [] 23 ([some (.ref 1), some (.int (x))], [.int ((0 : Int32))], σ) rfl ?_ ?_
        · trivial
        exact ev_iret rfl rfl nar0 (pu_f (by first | (intro h; exact absurd h.1 (by assumption)) | (simp_all; done) | (simp_all [iSh]; done)))
      · refine ev_blk 2 [] 23 ([some (.ref 1), some (.int (x))], [.int ((1 : Int32))], σ) rfl ?_ ?_
        · trivial
        exact ev_iret rfl rfl nar1 (pu_t (by first | (intro h; exact absurd h.1 (by assumption)) | (simp_all; done) | (simp_all [iSh]; done)))
set_option maxRecDepth 100000 in
theorem c_isLane (σ : xSg) (x : Int32) : xPu M_X5_isLane [.int (x)] σ (.int (zi (¬ x < 0 ∧ ¬ (2 : Int32) ≤ x))) := by
  refine ctr_ev ok_X5_isLane (by decide +kernel) rfl rfl rfl ?_
  show xEv (.inl 0) M_X5_isLane _ 0 ([some (.int (x))], [], σ)
  refine ev_br 1 [] (x < 0) 13 4 ([some (.int (x))], [], σ) rfl ?_ (fun c1 => ?_) (fun c1 => ?_)
  · trivial
  · refine ev_blk 1 [] 14 ([some (.int (x))], [.int ((0 : Int32))], σ) rfl ?_ ?_
    · trivial
    exact ev_iret rfl rfl nar0 (pu_f (by first | (intro h; exact absurd h.1 (by assumption)) | (simp_all; done) | (simp_all [iSh]; done)))
  · refine ev_br 2 [] ((2 : Int32) ≤ x) 13 9 ([some (.int (x))], [], σ) rfl ?_ (fun c6 => ?_) (fun c6 => ?_)
    · trivial
    · refine ev_blk 1 [] 14 ([some (.int (x))], [.int ((0 : Int32))], σ) rfl ?_ ?_
      · trivial
      exact ev_iret rfl rfl nar0 (pu_f (by first | (intro h; exact absurd h.1 (by assumption)) | (simp_all; done) | (simp_all [iSh]; done)))
    · refine ev_blk 2 [] 14 ([some (.int (x))], [.int ((1 : Int32))], σ) rfl ?_ ?_
      · trivial
      exact ev_iret rfl rfl nar1 (pu_t (by first | (intro h; exact absurd h.1 (by assumption)) | (simp_all; done) | (simp_all [iSh]; done)))
set_option maxRecDepth 100000 in
theorem c_isKind (σ : xSg) (x : Int32) : xPu M_X5_isKind [.int (x)] σ (.int (zi (¬ x < 0 ∧ ¬ (5 : Int32) < x))) := by
  refine ctr_ev ok_X5_isKind (by decide +kernel) rfl rfl rfl ?_
  show xEv (.inl 0) M_X5_isKind _ 0 ([some (.int (x))], [], σ)
  refine ev_br 1 [] (x < 0) 13 4 ([some (.int (x))], [], σ) rfl ?_ (fun c1 => ?_) (fun c1 => ?_)
  · trivial
  · refine ev_blk 1 [] 14 ([some (.int (x))], [.int ((0 : Int32))], σ) rfl ?_ ?_
    · trivial
    exact ev_iret rfl rfl nar0 (pu_f (by first | (intro h; exact absurd h.1 (by assumption)) | (simp_all; done) | (simp_all [iSh]; done)))
  · refine ev_br 2 [] ((5 : Int32) < x) 13 9 ([some (.int (x))], [], σ) rfl ?_ (fun c6 => ?_) (fun c6 => ?_)
    · trivial
    · refine ev_blk 1 [] 14 ([some (.int (x))], [.int ((0 : Int32))], σ) rfl ?_ ?_
      · trivial
      exact ev_iret rfl rfl nar0 (pu_f (by first | (intro h; exact absurd h.1 (by assumption)) | (simp_all; done) | (simp_all [iSh]; done)))
    · refine ev_blk 2 [] 14 ([some (.int (x))], [.int ((1 : Int32))], σ) rfl ?_ ?_
      · trivial
      exact ev_iret rfl rfl nar1 (pu_t (by first | (intro h; exact absurd h.1 (by assumption)) | (simp_all; done) | (simp_all [iSh]; done)))
set_option maxRecDepth 100000 in
theorem c_isSetting (σ : xSg) (x : Int32) : xPu M_X5_isSetting [.int (x)] σ (.int (zi (¬ x < 0 ∧ ¬ (4 : Int32) < x))) := by
  refine ctr_ev ok_X5_isSetting (by decide +kernel) rfl rfl rfl ?_
  show xEv (.inl 0) M_X5_isSetting _ 0 ([some (.int (x))], [], σ)
  refine ev_br 1 [] (x < 0) 13 4 ([some (.int (x))], [], σ) rfl ?_ (fun c1 => ?_) (fun c1 => ?_)
  · trivial
  · refine ev_blk 1 [] 14 ([some (.int (x))], [.int ((0 : Int32))], σ) rfl ?_ ?_
    · trivial
    exact ev_iret rfl rfl nar0 (pu_f (by first | (intro h; exact absurd h.1 (by assumption)) | (simp_all; done) | (simp_all [iSh]; done)))
  · refine ev_br 2 [] ((4 : Int32) < x) 13 9 ([some (.int (x))], [], σ) rfl ?_ (fun c6 => ?_) (fun c6 => ?_)
    · trivial
    · refine ev_blk 1 [] 14 ([some (.int (x))], [.int ((0 : Int32))], σ) rfl ?_ ?_
      · trivial
      exact ev_iret rfl rfl nar0 (pu_f (by first | (intro h; exact absurd h.1 (by assumption)) | (simp_all; done) | (simp_all [iSh]; done)))
    · refine ev_blk 2 [] 14 ([some (.int (x))], [.int ((1 : Int32))], σ) rfl ?_ ?_
      · trivial
      exact ev_iret rfl rfl nar1 (pu_t (by first | (intro h; exact absurd h.1 (by assumption)) | (simp_all; done) | (simp_all [iSh]; done)))
set_option maxRecDepth 100000 in
theorem c_isSheet (σ : xSg) (x : Int32) : xPu M_X5_isSheet [.int (x)] σ (.int (zi (¬ x < 0 ∧ ¬ (4 : Int32) ≤ x))) := by
  refine ctr_ev ok_X5_isSheet (by decide +kernel) rfl rfl rfl ?_
  show xEv (.inl 0) M_X5_isSheet _ 0 ([some (.int (x))], [], σ)
  refine ev_br 1 [] (x < 0) 13 4 ([some (.int (x))], [], σ) rfl ?_ (fun c1 => ?_) (fun c1 => ?_)
  · trivial
  · refine ev_blk 1 [] 14 ([some (.int (x))], [.int ((0 : Int32))], σ) rfl ?_ ?_
    · trivial
    exact ev_iret rfl rfl nar0 (pu_f (by first | (intro h; exact absurd h.1 (by assumption)) | (simp_all; done) | (simp_all [iSh]; done)))
  · refine ev_br 2 [] ((4 : Int32) ≤ x) 13 9 ([some (.int (x))], [], σ) rfl ?_ (fun c6 => ?_) (fun c6 => ?_)
    · trivial
    · refine ev_blk 1 [] 14 ([some (.int (x))], [.int ((0 : Int32))], σ) rfl ?_ ?_
      · trivial
      exact ev_iret rfl rfl nar0 (pu_f (by first | (intro h; exact absurd h.1 (by assumption)) | (simp_all; done) | (simp_all [iSh]; done)))
    · refine ev_blk 2 [] 14 ([some (.int (x))], [.int ((1 : Int32))], σ) rfl ?_ ?_
      · trivial
      exact ev_iret rfl rfl nar1 (pu_t (by first | (intro h; exact absurd h.1 (by assumption)) | (simp_all; done) | (simp_all [iSh]; done)))
set_option maxRecDepth 100000 in
theorem c_isSort (σ : xSg) (x : Int32) : xPu M_X5_isSort [.int (x)] σ (.int (zi (x = 0 ∨ x = 1))) := by
  refine ctr_ev ok_X5_isSort (by decide +kernel) rfl rfl rfl ?_
  show xEv (.inl 0) M_X5_isSort _ 0 ([some (.int (x))], [], σ)
  refine ev_br 1 [] (x = 0) 9 4 ([some (.int (x))], [], σ) rfl ?_ (fun c1 => ?_) (fun c1 => ?_)
  · trivial
  · refine ev_blk 2 [] 14 ([some (.int (x))], [.int ((1 : Int32))], σ) rfl ?_ ?_
    · trivial
    exact ev_iret rfl rfl nar1 (pu_t (by first | (intro h; exact absurd h.1 (by assumption)) | (simp_all; done) | (simp_all [iSh]; done)))
  · refine ev_br 2 [] (¬ x = (1 : Int32)) 13 9 ([some (.int (x))], [], σ) rfl ?_ (fun c6 => ?_) (fun c6 => ?_)
    · trivial
    · refine ev_blk 1 [] 14 ([some (.int (x))], [.int ((0 : Int32))], σ) rfl ?_ ?_
      · trivial
      exact ev_iret rfl rfl nar0 (pu_f (by first | (intro h; exact absurd h.1 (by assumption)) | (simp_all; done) | (simp_all [iSh]; done)))
    · refine ev_blk 2 [] 14 ([some (.int (x))], [.int ((1 : Int32))], σ) rfl ?_ ?_
      · trivial
      exact ev_iret rfl rfl nar1 (pu_t (by first | (intro h; exact absurd h.1 (by assumption)) | (simp_all; done) | (simp_all [iSh]; done)))
set_option maxRecDepth 100000 in
theorem m_within (σ : xSg) (x lo hi : Int32) : xPu M_X6_within [.int (x), .int (lo), .int (hi)] σ (.int (zi (¬ x < lo ∧ ¬ hi < x))) := by
  refine ctr_ev ok_X6_within (by decide +kernel) rfl rfl rfl ?_
  show xEv (.inl 0) M_X6_within _ 0 ([some (.int (x)), some (.int (lo)), some (.int (hi))], [], σ)
  refine ev_br 2 [] (x < lo) 14 5 ([some (.int (x)), some (.int (lo)), some (.int (hi))], [], σ) rfl ?_ (fun c2 => ?_) (fun c2 => ?_)
  · trivial
  · refine ev_blk 1 [] 15 ([some (.int (x)), some (.int (lo)), some (.int (hi))], [.int ((0 : Int32))], σ) rfl ?_ ?_
    · trivial
    exact ev_iret rfl rfl nar0 (pu_f (by first | (intro h; exact absurd h.1 (by assumption)) | (simp_all; done) | (simp_all [iSh]; done)))
  · refine ev_br 2 [] (hi < x) 14 10 ([some (.int (x)), some (.int (lo)), some (.int (hi))], [], σ) rfl ?_ (fun c7 => ?_) (fun c7 => ?_)
    · trivial
    · refine ev_blk 1 [] 15 ([some (.int (x)), some (.int (lo)), some (.int (hi))], [.int ((0 : Int32))], σ) rfl ?_ ?_
      · trivial
      exact ev_iret rfl rfl nar0 (pu_f (by first | (intro h; exact absurd h.1 (by assumption)) | (simp_all; done) | (simp_all [iSh]; done)))
    · refine ev_blk 2 [] 15 ([some (.int (x)), some (.int (lo)), some (.int (hi))], [.int ((1 : Int32))], σ) rfl ?_ ?_
      · trivial
      exact ev_iret rfl rfl nar1 (pu_t (by first | (intro h; exact absurd h.1 (by assumption)) | (simp_all; done) | (simp_all [iSh]; done)))
set_option maxRecDepth 100000 in
theorem c_isWaiting (σ : xSg) (x : Int32) : xPu M_X3_isWaiting [.ref 1, .int (x)] σ (.int (zi (iSh σ x ∧ ¬ (σ 1 1 >>> (x &&& 31)) &&& 1 = 0))) := by
  refine ctr_ev ok_X3_isWaiting (by decide +kernel) rfl rfl rfl ?_
  show xEv (.inl 1) M_X3_isWaiting _ 0 ([some (.ref 1), some (.int (x))], [], σ)
  refine ev_blk 2 [] 2 ([some (.ref 1), some (.int (x))], [.int (x), .ref 1], σ) rfl ?_ ?_
  · trivial
  refine ev_callV M_X3_isShip [.int (x)] [] 1 rfl rfl ln_X3_78 k_X3_isShip rfl rfl rfl rfl rfl rfl (c_isShip _ _) ?_
  refine pu_k ?_
  show xEv _ _ _ 5 ([some (.ref 1), some (.int (x))], [.int (zi (iSh σ x))], σ)
  refine ev_br 0 [] ((zi (iSh σ x)) = 0) 23 8 ([some (.ref 1), some (.int (x))], [], σ) rfl ?_ (fun c5 => ?_) (fun c5 => ?_)
  · trivial
  · replace c5 := zi_0.mp c5
    refine ev_blk 1 [] 24 ([some (.ref 1), some (.int (x))], [.int ((0 : Int32))], σ) rfl ?_ ?_
    · trivial
    exact ev_iret rfl rfl nar0 (pu_f (by first | (intro h; exact absurd h.1 (by assumption)) | (simp_all; done) | (simp_all [iSh]; done)))
  · replace c5 := zi_1.mp c5
    refine ev_br 6 [] ((((σ 1 1) >>> (x &&& 31)) &&& (1 : Int32)) = 0) 23 19 ([some (.ref 1), some (.int (x))], [], σ) rfl ?_ (fun c16 => ?_) (fun c16 => ?_)
    · trivial
    · refine ev_blk 1 [] 24 ([some (.ref 1), some (.int (x))], [.int ((0 : Int32))], σ) rfl ?_ ?_
      · trivial
      exact ev_iret rfl rfl nar0 (pu_f (by first | (intro h; exact absurd h.1 (by assumption)) | (simp_all; done) | (simp_all [iSh]; done)))
    · refine ev_blk 2 [] 24 ([some (.ref 1), some (.int (x))], [.int ((1 : Int32))], σ) rfl ?_ ?_
      · trivial
      exact ev_iret rfl rfl nar1 (pu_t (by first | (intro h; exact absurd h.1 (by assumption)) | (simp_all; done) | (simp_all [iSh]; done)))
set_option maxRecDepth 100000 in
theorem c_isGone (σ : xSg) (x : Int32) : xPu M_X3_isGone [.ref 1, .int (x)] σ (.int (zi (iSh σ x ∧ ¬ (σ 1 2 >>> (x &&& 31)) &&& 1 = 0))) := by
  refine ctr_ev ok_X3_isGone (by decide +kernel) rfl rfl rfl ?_
  show xEv (.inl 1) M_X3_isGone _ 0 ([some (.ref 1), some (.int (x))], [], σ)
  refine ev_blk 2 [] 2 ([some (.ref 1), some (.int (x))], [.int (x), .ref 1], σ) rfl ?_ ?_
  · trivial
  refine ev_callV M_X3_isShip [.int (x)] [] 1 rfl rfl ln_X3_78 k_X3_isShip rfl rfl rfl rfl rfl rfl (c_isShip _ _) ?_
  refine pu_k ?_
  show xEv _ _ _ 5 ([some (.ref 1), some (.int (x))], [.int (zi (iSh σ x))], σ)
  refine ev_br 0 [] ((zi (iSh σ x)) = 0) 23 8 ([some (.ref 1), some (.int (x))], [], σ) rfl ?_ (fun c5 => ?_) (fun c5 => ?_)
  · trivial
  · replace c5 := zi_0.mp c5
    refine ev_blk 1 [] 24 ([some (.ref 1), some (.int (x))], [.int ((0 : Int32))], σ) rfl ?_ ?_
    · trivial
    exact ev_iret rfl rfl nar0 (pu_f (by first | (intro h; exact absurd h.1 (by assumption)) | (simp_all; done) | (simp_all [iSh]; done)))
  · replace c5 := zi_1.mp c5
    refine ev_br 6 [] ((((σ 1 2) >>> (x &&& 31)) &&& (1 : Int32)) = 0) 23 19 ([some (.ref 1), some (.int (x))], [], σ) rfl ?_ (fun c16 => ?_) (fun c16 => ?_)
    · trivial
    · refine ev_blk 1 [] 24 ([some (.ref 1), some (.int (x))], [.int ((0 : Int32))], σ) rfl ?_ ?_
      · trivial
      exact ev_iret rfl rfl nar0 (pu_f (by first | (intro h; exact absurd h.1 (by assumption)) | (simp_all; done) | (simp_all [iSh]; done)))
    · refine ev_blk 2 [] 24 ([some (.ref 1), some (.int (x))], [.int ((1 : Int32))], σ) rfl ?_ ?_
      · trivial
      exact ev_iret rfl rfl nar1 (pu_t (by first | (intro h; exact absurd h.1 (by assumption)) | (simp_all; done) | (simp_all [iSh]; done)))
set_option maxRecDepth 100000 in
theorem c_span (σ : xSg) (x : Int32) (h : ¬ x < 0 ∧ x < 10) : xPu M_X3_span [.ref 1, .int (x)] σ (.int (s_span (σ 2) (σ 3) x.toNatClampNeg)) := by
  refine ctr_ev ok_X3_span (by decide +kernel) rfl rfl rfl ?_
  show xEv (.inl 1) M_X3_span _ 0 ([some (.ref 1), some (.int (x)), none], [], σ)
  refine ev_br 1 [] (x < 0) 10 4 ([some (.ref 1), some (.int (x)), none], [], σ) rfl ?_ (fun c1 => ?_) (fun c1 => ?_)
  · trivial
  · exact absurd c1 h.1
  · refine ev_br 2 [] (x < (10 : Int32)) 12 10 ([some (.ref 1), some (.int (x)), none], [], σ) rfl ?_ (fun c7 => ?_) (fun c7 => ?_)
    · trivial
    · refine ev_sw 9 [vp_in (x) 10, vp_in (x) 10] ((σ 2) x.toNatClampNeg) [((1 : Int32), 60), ((2 : Int32), 64), ((3 : Int32), 78), ((4 : Int32), 70), ((5 : Int32), 60)] 78 ([some (.ref 1), some (.int (x)), some (.int ((σ 3) x.toNatClampNeg))], [], σ) rfl ?_ ?_
      · first | exact vpi10' h.1 h.2 | exact ⟨vpi10' h.1 h.2, vpi10' h.1 h.2⟩
      refine ⟨fun c25_1 => ?_, fun c25_1 => ?_⟩
      · refine ev_blk 3 [] 63 ([some (.ref 1), some (.int (x)), some (.int ((σ 3) x.toNatClampNeg))], [.int (((σ 3) x.toNatClampNeg) + (1 : Int32))], σ) rfl ?_ ?_
        · trivial
        exact ev_iret rfl rfl rfl ⟨by simp_all [s_span, s_rank], rfl⟩
      refine ⟨fun c25_2 => ?_, fun c25_2 => ?_⟩
      · refine ev_blk 5 [] 69 ([some (.ref 1), some (.int (x)), some (.int ((σ 3) x.toNatClampNeg))], [.int ((2 : Int32) * (((σ 3) x.toNatClampNeg) + (1 : Int32)))], σ) rfl ?_ ?_
        · trivial
        exact ev_iret rfl rfl rfl ⟨by simp_all [s_span, s_rank], rfl⟩
      refine ⟨fun c25_3 => ?_, fun c25_3 => ?_⟩
      · refine ev_blk 1 [] 79 ([some (.ref 1), some (.int (x)), some (.int ((σ 3) x.toNatClampNeg))], [.int ((σ 3) x.toNatClampNeg)], σ) rfl ?_ ?_
        · trivial
        exact ev_iret rfl rfl rfl ⟨by simp_all [s_span, s_rank], rfl⟩
      refine ⟨fun c25_4 => ?_, fun c25_4 => ?_⟩
      · refine ev_blk 5 [] 77 ([some (.ref 1), some (.int (x)), some (.int ((σ 3) x.toNatClampNeg))], [.int (x_mx (1 : Int32) (((σ 3) x.toNatClampNeg) - (1 : Int32)))], σ) rfl ?_ ?_
        · trivial
        exact ev_iret rfl rfl rfl ⟨by simp_all [s_span, s_rank], rfl⟩
      refine ⟨fun c25_5 => ?_, fun c25_5 => ?_⟩
      · refine ev_blk 3 [] 63 ([some (.ref 1), some (.int (x)), some (.int ((σ 3) x.toNatClampNeg))], [.int (((σ 3) x.toNatClampNeg) + (1 : Int32))], σ) rfl ?_ ?_
        · trivial
        exact ev_iret rfl rfl rfl ⟨by simp_all [s_span, s_rank], rfl⟩
      show xEv _ _ _ 78 ([some (.ref 1), some (.int (x)), some (.int ((σ 3) x.toNatClampNeg))], [], σ)
      refine ev_blk 1 [] 79 ([some (.ref 1), some (.int (x)), some (.int ((σ 3) x.toNatClampNeg))], [.int ((σ 3) x.toNatClampNeg)], σ) rfl ?_ ?_
      · trivial
      exact ev_iret rfl rfl rfl ⟨by simp_all [s_span, s_rank], rfl⟩
    · exact absurd h.2 c7
set_option maxRecDepth 100000 in
theorem c_rank (σ : xSg) (x : Int32) (h : ¬ x < 0 ∧ x < 10) : xPu M_X3_rank [.ref 1, .int (x)] σ (.int (s_rank (σ 2) (σ 4) x.toNatClampNeg)) := by
  refine ctr_ev ok_X3_rank (by decide +kernel) rfl rfl rfl ?_
  show xEv (.inl 0) M_X3_rank _ 0 ([some (.ref 1), some (.int (x)), none], [], σ)
  refine ev_br 1 [] (x < 0) 10 4 ([some (.ref 1), some (.int (x)), none], [], σ) rfl ?_ (fun c1 => ?_) (fun c1 => ?_)
  · trivial
  · exact absurd c1 h.1
  · refine ev_br 2 [] (x < (10 : Int32)) 12 10 ([some (.ref 1), some (.int (x)), none], [], σ) rfl ?_ (fun c7 => ?_) (fun c7 => ?_)
    · trivial
    · refine ev_sw 9 [vp_in (x) 10, vp_in (x) 10] ((σ 2) x.toNatClampNeg) [((3 : Int32), 52), ((4 : Int32), 57)] 64 ([some (.ref 1), some (.int (x)), some (.int ((σ 4) x.toNatClampNeg))], [], σ) rfl ?_ ?_
      · first | exact vpi10' h.1 h.2 | exact ⟨vpi10' h.1 h.2, vpi10' h.1 h.2⟩
      refine ⟨fun c25_3 => ?_, fun c25_3 => ?_⟩
      · refine ev_blk 3 [] 56 ([some (.ref 1), some (.int (x)), some (.int ((σ 4) x.toNatClampNeg))], [.int (((σ 4) x.toNatClampNeg) + (10 : Int32))], σ) rfl ?_ ?_
        · trivial
        exact ev_iret rfl rfl rfl ⟨by simp_all [s_span, s_rank], rfl⟩
      refine ⟨fun c25_4 => ?_, fun c25_4 => ?_⟩
      · refine ev_blk 5 [] 63 ([some (.ref 1), some (.int (x)), some (.int ((σ 4) x.toNatClampNeg))], [.int ((2 : Int32) * (((σ 4) x.toNatClampNeg) + (10 : Int32)))], σ) rfl ?_ ?_
        · trivial
        exact ev_iret rfl rfl rfl ⟨by simp_all [s_span, s_rank], rfl⟩
      show xEv _ _ _ 64 ([some (.ref 1), some (.int (x)), some (.int ((σ 4) x.toNatClampNeg))], [], σ)
      refine ev_blk 1 [] 65 ([some (.ref 1), some (.int (x)), some (.int ((σ 4) x.toNatClampNeg))], [.int ((σ 4) x.toNatClampNeg)], σ) rfl ?_ ?_
      · trivial
      exact ev_iret rfl rfl rfl ⟨by simp_all [s_span, s_rank], rfl⟩
    · exact absurd h.2 c7
set_option maxRecDepth 100000 in
theorem m_span (σ : xSg) (x : Int32) (h : vp_in x 10) : xPu M_X6_spanOf [.ref 57, .int (x)] σ (.int (s_span (σ 58) (σ 59) x.toNatClampNeg)) := by
  refine ctr_ev ok_X6_spanOf (by decide +kernel) rfl rfl rfl ?_
  show xEv (.inl 1) M_X6_spanOf _ 0 ([some (.ref 57), some (.int (x))], [], σ)
  refine ev_sw 4 [vp_in (x) 10] ((σ 58) x.toNatClampNeg) [((1 : Int32), 40), ((2 : Int32), 49), ((3 : Int32), 73), ((4 : Int32), 60), ((5 : Int32), 40)] 73 ([some (.ref 57), some (.int (x))], [], σ) rfl ?_ ?_
  · first | exact h | exact ⟨h, h⟩ | exact ⟨h, h, h⟩
  refine ⟨fun c6_1 => ?_, fun c6_1 => ?_⟩
  · refine ev_blk 6 [vp_in (x) 10] 48 ([some (.ref 57), some (.int (x))], [.int (((σ 59) x.toNatClampNeg) + (1 : Int32))], σ) rfl ?_ ?_
    · first | exact h | exact ⟨h, h⟩ | exact ⟨h, h, h⟩
    exact ev_iret rfl rfl rfl ⟨by simp_all [s_span, s_rank], rfl⟩
  refine ⟨fun c6_2 => ?_, fun c6_2 => ?_⟩
  · refine ev_blk 8 [vp_in (x) 10] 59 ([some (.ref 57), some (.int (x))], [.int ((2 : Int32) * (((σ 59) x.toNatClampNeg) + (1 : Int32)))], σ) rfl ?_ ?_
    · first | exact h | exact ⟨h, h⟩ | exact ⟨h, h, h⟩
    exact ev_iret rfl rfl rfl ⟨by simp_all [s_span, s_rank], rfl⟩
  refine ⟨fun c6_3 => ?_, fun c6_3 => ?_⟩
  · refine ev_blk 4 [vp_in (x) 10] 79 ([some (.ref 57), some (.int (x))], [.int ((σ 59) x.toNatClampNeg)], σ) rfl ?_ ?_
    · first | exact h | exact ⟨h, h⟩ | exact ⟨h, h, h⟩
    exact ev_iret rfl rfl rfl ⟨by simp_all [s_span, s_rank], rfl⟩
  refine ⟨fun c6_4 => ?_, fun c6_4 => ?_⟩
  · refine ev_blk 8 [vp_in (x) 10] 72 ([some (.ref 57), some (.int (x))], [.int (x_mx (1 : Int32) (((σ 59) x.toNatClampNeg) - (1 : Int32)))], σ) rfl ?_ ?_
    · first | exact h | exact ⟨h, h⟩ | exact ⟨h, h, h⟩
    exact ev_iret rfl rfl rfl ⟨by simp_all [s_span, s_rank], rfl⟩
  refine ⟨fun c6_5 => ?_, fun c6_5 => ?_⟩
  · refine ev_blk 6 [vp_in (x) 10] 48 ([some (.ref 57), some (.int (x))], [.int (((σ 59) x.toNatClampNeg) + (1 : Int32))], σ) rfl ?_ ?_
    · first | exact h | exact ⟨h, h⟩ | exact ⟨h, h, h⟩
    exact ev_iret rfl rfl rfl ⟨by simp_all [s_span, s_rank], rfl⟩
  show xEv _ _ _ 73 ([some (.ref 57), some (.int (x))], [], σ)
  refine ev_blk 4 [vp_in (x) 10] 79 ([some (.ref 57), some (.int (x))], [.int ((σ 59) x.toNatClampNeg)], σ) rfl ?_ ?_
  · first | exact h | exact ⟨h, h⟩ | exact ⟨h, h, h⟩
  exact ev_iret rfl rfl rfl ⟨by simp_all [s_span, s_rank], rfl⟩
set_option maxRecDepth 100000 in
theorem m_rank (σ : xSg) (x : Int32) (h : vp_in x 10) : xPu M_X6_rankOf [.ref 57, .int (x)] σ (.int (s_rank (σ 58) (σ 60) x.toNatClampNeg)) := by
  refine ctr_ev ok_X6_rankOf (by decide +kernel) rfl rfl rfl ?_
  show xEv (.inl 0) M_X6_rankOf _ 0 ([some (.ref 57), some (.int (x))], [], σ)
  refine ev_br 5 [vp_in (x) 10] (¬ ((σ 58) x.toNatClampNeg) = (3 : Int32)) 22 10 ([some (.ref 57), some (.int (x))], [], σ) rfl ?_ (fun c7 => ?_) (fun c7 => ?_)
  · first | exact h | exact ⟨h, h⟩ | exact ⟨h, h, h⟩
  · refine ev_br 5 [vp_in (x) 10] (¬ ((σ 58) x.toNatClampNeg) = (4 : Int32)) 46 32 ([some (.ref 57), some (.int (x))], [], σ) rfl ?_ (fun c29 => ?_) (fun c29 => ?_)
    · first | exact h | exact ⟨h, h⟩ | exact ⟨h, h, h⟩
    · refine ev_blk 4 [vp_in (x) 10] 52 ([some (.ref 57), some (.int (x))], [.int ((σ 60) x.toNatClampNeg)], σ) rfl ?_ ?_
      · first | exact h | exact ⟨h, h⟩ | exact ⟨h, h, h⟩
      exact ev_iret rfl rfl rfl ⟨by simp_all [s_span, s_rank], rfl⟩
    · refine ev_blk 9 [vp_in (x) 10] 52 ([some (.ref 57), some (.int (x))], [.int ((2 : Int32) * (((σ 60) x.toNatClampNeg) + (10 : Int32)))], σ) rfl ?_ ?_
      · first | exact h | exact ⟨h, h⟩ | exact ⟨h, h, h⟩
      exact ev_iret rfl rfl rfl ⟨by simp_all [s_span, s_rank], rfl⟩
  · refine ev_blk 7 [vp_in (x) 10] 52 ([some (.ref 57), some (.int (x))], [.int (((σ 60) x.toNatClampNeg) + (10 : Int32))], σ) rfl ?_ ?_
    · first | exact h | exact ⟨h, h⟩ | exact ⟨h, h, h⟩
    exact ev_iret rfl rfl rfl ⟨by simp_all [s_span, s_rank], rfl⟩
set_option maxRecDepth 100000 in
theorem m_isShip (σ : xSg) (x : Int32) : xPu M_X6_isShip [.ref 57, .int (x)] σ (.int (zi (¬ x < 0 ∧ ¬ σ 57 0 - 1 < x))) := by
  refine ctr_ev ok_X6_isShip (by decide +kernel) rfl rfl rfl ?_
  show xEv (.inl 1) M_X6_isShip _ 0 ([some (.ref 57), some (.int (x))], [], σ)
  refine ev_blk 6 [] 8 ([some (.ref 57), some (.int (x))], [.int ((σ 57 0) - (1 : Int32)), .int ((0 : Int32)), .int (x)], σ) rfl ?_ ?_
  · trivial
  refine ev_callS M_X6_within [.int (x), .int ((0 : Int32)), .int ((σ 57 0) - (1 : Int32))] [] rfl rfl ln_X6_110 k_X6_within rfl rfl rfl (m_within _ _ _ _) ?_
  refine pu_k ?_
  show xEv _ _ _ 11 ([some (.ref 57), some (.int (x))], [.int (zi (¬ x < (0 : Int32) ∧ ¬ ((σ 57 0) - (1 : Int32)) < x))], σ)
  exact ev_iret rfl rfl zi_nar ⟨rfl, rfl⟩
set_option maxRecDepth 100000 in
theorem m_isSheet (σ : xSg) (x : Int32) : xPu M_X6_isSheet [.int (x)] σ (.int (zi (¬ x < 0 ∧ ¬ (3 : Int32) < x))) := by
  refine ctr_ev ok_X6_isSheet (by decide +kernel) rfl rfl rfl ?_
  show xEv (.inl 1) M_X6_isSheet _ 0 ([some (.int (x))], [], σ)
  refine ev_blk 3 [] 3 ([some (.int (x))], [.int ((3 : Int32)), .int ((0 : Int32)), .int (x)], σ) rfl ?_ ?_
  · trivial
  refine ev_callS M_X6_within [.int (x), .int ((0 : Int32)), .int ((3 : Int32))] [] rfl rfl ln_X6_110 k_X6_within rfl rfl rfl (m_within _ _ _ _) ?_
  refine pu_k ?_
  show xEv _ _ _ 6 ([some (.int (x))], [.int (zi (¬ x < (0 : Int32) ∧ ¬ (3 : Int32) < x))], σ)
  exact ev_iret rfl rfl zi_nar ⟨rfl, rfl⟩
set_option maxRecDepth 100000 in
theorem c_isMissing0 (σ : xSg) : xPu M_X4_isMissing [.ref 49] σ (.int (zi (σ 49 0 = -1))) := by
  refine ctr_ev ok_X4_isMissing (by decide +kernel) rfl rfl rfl ?_
  show xEv (.inl 0) M_X4_isMissing _ 0 ([some (.ref 49)], [], σ)
  refine ev_br 3 [] (¬ (σ 49 0) = (-1 : Int32)) 12 8 ([some (.ref 49)], [], σ) rfl ?_ (fun c5 => ?_) (fun c5 => ?_)
  · trivial
  · refine ev_blk 1 [] 13 ([some (.ref 49)], [.int ((0 : Int32))], σ) rfl ?_ ?_
    · trivial
    exact ev_iret rfl rfl nar0 (pu_f (by first | (intro h; exact absurd h.1 (by assumption)) | (simp_all; done) | (simp_all [iSh]; done)))
  · refine ev_blk 2 [] 13 ([some (.ref 49)], [.int ((1 : Int32))], σ) rfl ?_ ?_
    · trivial
    exact ev_iret rfl rfl nar1 (pu_t (by first | (intro h; exact absurd h.1 (by assumption)) | (simp_all; done) | (simp_all [iSh]; done)))
set_option maxRecDepth 100000 in
theorem c_has0 (σ : xSg) (x : Int32) : xPu M_X4_has [.ref 49, .int (x)] σ (.int (zi (¬ x < 0 ∧ ¬ σ 49 1 ≤ x))) := by
  refine ctr_ev ok_X4_has (by decide +kernel) rfl rfl rfl ?_
  show xEv (.inl 0) M_X4_has _ 0 ([some (.ref 49), some (.int (x))], [], σ)
  refine ev_br 1 [] (x < 0) 16 4 ([some (.ref 49), some (.int (x))], [], σ) rfl ?_ (fun c1 => ?_) (fun c1 => ?_)
  · trivial
  · refine ev_blk 1 [] 17 ([some (.ref 49), some (.int (x))], [.int ((0 : Int32))], σ) rfl ?_ ?_
    · trivial
    exact ev_iret rfl rfl nar0 (pu_f (by first | (intro h; exact absurd h.1 (by assumption)) | (simp_all; done) | (simp_all [iSh]; done)))
  · refine ev_br 3 [] ((σ 49 1) ≤ x) 16 12 ([some (.ref 49), some (.int (x))], [], σ) rfl ?_ (fun c9 => ?_) (fun c9 => ?_)
    · trivial
    · refine ev_blk 1 [] 17 ([some (.ref 49), some (.int (x))], [.int ((0 : Int32))], σ) rfl ?_ ?_
      · trivial
      exact ev_iret rfl rfl nar0 (pu_f (by first | (intro h; exact absurd h.1 (by assumption)) | (simp_all; done) | (simp_all [iSh]; done)))
    · refine ev_blk 2 [] 17 ([some (.ref 49), some (.int (x))], [.int ((1 : Int32))], σ) rfl ?_ ?_
      · trivial
      exact ev_iret rfl rfl nar1 (pu_t (by first | (intro h; exact absurd h.1 (by assumption)) | (simp_all; done) | (simp_all [iSh]; done)))
set_option maxRecDepth 100000 in
theorem c_hasRun0 (σ : xSg) (x n : Int32) : xPu M_X4_hasRun [.ref 49, .int (x), .int (n)] σ (.int (zi (¬ x < 0 ∧ ¬ n < 0 ∧ ¬ σ 49 1 < x ∧ ¬ σ 49 1 - x < n))) := by
  refine ctr_ev ok_X4_hasRun (by decide +kernel) rfl rfl rfl ?_
  show xEv (.inl 0) M_X4_hasRun _ 0 ([some (.ref 49), some (.int (x)), some (.int (n))], [], σ)
  refine ev_br 1 [] (x < 0) 30 4 ([some (.ref 49), some (.int (x)), some (.int (n))], [], σ) rfl ?_ (fun c1 => ?_) (fun c1 => ?_)
  · trivial
  · refine ev_blk 1 [] 31 ([some (.ref 49), some (.int (x)), some (.int (n))], [.int ((0 : Int32))], σ) rfl ?_ ?_
    · trivial
    exact ev_iret rfl rfl nar0 (pu_f (by first | (intro h; exact absurd h.1 (by assumption)) | (simp_all; done) | (simp_all [iSh]; done)))
  · refine ev_br 1 [] (n < 0) 30 8 ([some (.ref 49), some (.int (x)), some (.int (n))], [], σ) rfl ?_ (fun c5 => ?_) (fun c5 => ?_)
    · trivial
    · refine ev_blk 1 [] 31 ([some (.ref 49), some (.int (x)), some (.int (n))], [.int ((0 : Int32))], σ) rfl ?_ ?_
      · trivial
      exact ev_iret rfl rfl nar0 (pu_f (by first | (intro h; exact absurd h.1 (by assumption)) | (simp_all; done) | (simp_all [iSh]; done)))
    · refine ev_br 3 [] ((σ 49 1) < x) 30 16 ([some (.ref 49), some (.int (x)), some (.int (n))], [], σ) rfl ?_ (fun c13 => ?_) (fun c13 => ?_)
      · trivial
      · refine ev_blk 1 [] 31 ([some (.ref 49), some (.int (x)), some (.int (n))], [.int ((0 : Int32))], σ) rfl ?_ ?_
        · trivial
        exact ev_iret rfl rfl nar0 (pu_f (by first | (intro h; exact absurd h.1 (by assumption)) | (simp_all; done) | (simp_all [iSh]; done)))
      · refine ev_br 5 [] (((σ 49 1) - x) < n) 30 26 ([some (.ref 49), some (.int (x)), some (.int (n))], [], σ) rfl ?_ (fun c23 => ?_) (fun c23 => ?_)
        · trivial
        · refine ev_blk 1 [] 31 ([some (.ref 49), some (.int (x)), some (.int (n))], [.int ((0 : Int32))], σ) rfl ?_ ?_
          · trivial
          exact ev_iret rfl rfl nar0 (pu_f (by first | (intro h; exact absurd h.1 (by assumption)) | (simp_all; done) | (simp_all [iSh]; done)))
        · refine ev_blk 2 [] 31 ([some (.ref 49), some (.int (x)), some (.int (n))], [.int ((1 : Int32))], σ) rfl ?_ ?_
          · trivial
          exact ev_iret rfl rfl nar1 (pu_t (by first | (intro h; exact absurd h.1 (by assumption)) | (simp_all; done) | (simp_all [iSh]; done)))
set_option maxRecDepth 100000 in
theorem c_isMissing1 (σ : xSg) : xPu M_X4_isMissing [.ref 51] σ (.int (zi (σ 51 0 = -1))) := by
  refine ctr_ev ok_X4_isMissing (by decide +kernel) rfl rfl rfl ?_
  show xEv (.inl 0) M_X4_isMissing _ 0 ([some (.ref 51)], [], σ)
  refine ev_br 3 [] (¬ (σ 51 0) = (-1 : Int32)) 12 8 ([some (.ref 51)], [], σ) rfl ?_ (fun c5 => ?_) (fun c5 => ?_)
  · trivial
  · refine ev_blk 1 [] 13 ([some (.ref 51)], [.int ((0 : Int32))], σ) rfl ?_ ?_
    · trivial
    exact ev_iret rfl rfl nar0 (pu_f (by first | (intro h; exact absurd h.1 (by assumption)) | (simp_all; done) | (simp_all [iSh]; done)))
  · refine ev_blk 2 [] 13 ([some (.ref 51)], [.int ((1 : Int32))], σ) rfl ?_ ?_
    · trivial
    exact ev_iret rfl rfl nar1 (pu_t (by first | (intro h; exact absurd h.1 (by assumption)) | (simp_all; done) | (simp_all [iSh]; done)))
set_option maxRecDepth 100000 in
theorem c_has1 (σ : xSg) (x : Int32) : xPu M_X4_has [.ref 51, .int (x)] σ (.int (zi (¬ x < 0 ∧ ¬ σ 51 1 ≤ x))) := by
  refine ctr_ev ok_X4_has (by decide +kernel) rfl rfl rfl ?_
  show xEv (.inl 0) M_X4_has _ 0 ([some (.ref 51), some (.int (x))], [], σ)
  refine ev_br 1 [] (x < 0) 16 4 ([some (.ref 51), some (.int (x))], [], σ) rfl ?_ (fun c1 => ?_) (fun c1 => ?_)
  · trivial
  · refine ev_blk 1 [] 17 ([some (.ref 51), some (.int (x))], [.int ((0 : Int32))], σ) rfl ?_ ?_
    · trivial
    exact ev_iret rfl rfl nar0 (pu_f (by first | (intro h; exact absurd h.1 (by assumption)) | (simp_all; done) | (simp_all [iSh]; done)))
  · refine ev_br 3 [] ((σ 51 1) ≤ x) 16 12 ([some (.ref 51), some (.int (x))], [], σ) rfl ?_ (fun c9 => ?_) (fun c9 => ?_)
    · trivial
    · refine ev_blk 1 [] 17 ([some (.ref 51), some (.int (x))], [.int ((0 : Int32))], σ) rfl ?_ ?_
      · trivial
      exact ev_iret rfl rfl nar0 (pu_f (by first | (intro h; exact absurd h.1 (by assumption)) | (simp_all; done) | (simp_all [iSh]; done)))
    · refine ev_blk 2 [] 17 ([some (.ref 51), some (.int (x))], [.int ((1 : Int32))], σ) rfl ?_ ?_
      · trivial
      exact ev_iret rfl rfl nar1 (pu_t (by first | (intro h; exact absurd h.1 (by assumption)) | (simp_all; done) | (simp_all [iSh]; done)))
set_option maxRecDepth 100000 in
theorem c_hasRun1 (σ : xSg) (x n : Int32) : xPu M_X4_hasRun [.ref 51, .int (x), .int (n)] σ (.int (zi (¬ x < 0 ∧ ¬ n < 0 ∧ ¬ σ 51 1 < x ∧ ¬ σ 51 1 - x < n))) := by
  refine ctr_ev ok_X4_hasRun (by decide +kernel) rfl rfl rfl ?_
  show xEv (.inl 0) M_X4_hasRun _ 0 ([some (.ref 51), some (.int (x)), some (.int (n))], [], σ)
  refine ev_br 1 [] (x < 0) 30 4 ([some (.ref 51), some (.int (x)), some (.int (n))], [], σ) rfl ?_ (fun c1 => ?_) (fun c1 => ?_)
  · trivial
  · refine ev_blk 1 [] 31 ([some (.ref 51), some (.int (x)), some (.int (n))], [.int ((0 : Int32))], σ) rfl ?_ ?_
    · trivial
    exact ev_iret rfl rfl nar0 (pu_f (by first | (intro h; exact absurd h.1 (by assumption)) | (simp_all; done) | (simp_all [iSh]; done)))
  · refine ev_br 1 [] (n < 0) 30 8 ([some (.ref 51), some (.int (x)), some (.int (n))], [], σ) rfl ?_ (fun c5 => ?_) (fun c5 => ?_)
    · trivial
    · refine ev_blk 1 [] 31 ([some (.ref 51), some (.int (x)), some (.int (n))], [.int ((0 : Int32))], σ) rfl ?_ ?_
      · trivial
      exact ev_iret rfl rfl nar0 (pu_f (by first | (intro h; exact absurd h.1 (by assumption)) | (simp_all; done) | (simp_all [iSh]; done)))
    · refine ev_br 3 [] ((σ 51 1) < x) 30 16 ([some (.ref 51), some (.int (x)), some (.int (n))], [], σ) rfl ?_ (fun c13 => ?_) (fun c13 => ?_)
      · trivial
      · refine ev_blk 1 [] 31 ([some (.ref 51), some (.int (x)), some (.int (n))], [.int ((0 : Int32))], σ) rfl ?_ ?_
        · trivial
        exact ev_iret rfl rfl nar0 (pu_f (by first | (intro h; exact absurd h.1 (by assumption)) | (simp_all; done) | (simp_all [iSh]; done)))
      · refine ev_br 5 [] (((σ 51 1) - x) < n) 30 26 ([some (.ref 51), some (.int (x)), some (.int (n))], [], σ) rfl ?_ (fun c23 => ?_) (fun c23 => ?_)
        · trivial
        · refine ev_blk 1 [] 31 ([some (.ref 51), some (.int (x)), some (.int (n))], [.int ((0 : Int32))], σ) rfl ?_ ?_
          · trivial
          exact ev_iret rfl rfl nar0 (pu_f (by first | (intro h; exact absurd h.1 (by assumption)) | (simp_all; done) | (simp_all [iSh]; done)))
        · refine ev_blk 2 [] 31 ([some (.ref 51), some (.int (x)), some (.int (n))], [.int ((1 : Int32))], σ) rfl ?_ ?_
          · trivial
          exact ev_iret rfl rfl nar1 (pu_t (by first | (intro h; exact absurd h.1 (by assumption)) | (simp_all; done) | (simp_all [iSh]; done)))
set_option maxRecDepth 100000 in
theorem c_isMissing2 (σ : xSg) : xPu M_X4_isMissing [.ref 53] σ (.int (zi (σ 53 0 = -1))) := by
  refine ctr_ev ok_X4_isMissing (by decide +kernel) rfl rfl rfl ?_
  show xEv (.inl 0) M_X4_isMissing _ 0 ([some (.ref 53)], [], σ)
  refine ev_br 3 [] (¬ (σ 53 0) = (-1 : Int32)) 12 8 ([some (.ref 53)], [], σ) rfl ?_ (fun c5 => ?_) (fun c5 => ?_)
  · trivial
  · refine ev_blk 1 [] 13 ([some (.ref 53)], [.int ((0 : Int32))], σ) rfl ?_ ?_
    · trivial
    exact ev_iret rfl rfl nar0 (pu_f (by first | (intro h; exact absurd h.1 (by assumption)) | (simp_all; done) | (simp_all [iSh]; done)))
  · refine ev_blk 2 [] 13 ([some (.ref 53)], [.int ((1 : Int32))], σ) rfl ?_ ?_
    · trivial
    exact ev_iret rfl rfl nar1 (pu_t (by first | (intro h; exact absurd h.1 (by assumption)) | (simp_all; done) | (simp_all [iSh]; done)))
set_option maxRecDepth 100000 in
theorem c_has2 (σ : xSg) (x : Int32) : xPu M_X4_has [.ref 53, .int (x)] σ (.int (zi (¬ x < 0 ∧ ¬ σ 53 1 ≤ x))) := by
  refine ctr_ev ok_X4_has (by decide +kernel) rfl rfl rfl ?_
  show xEv (.inl 0) M_X4_has _ 0 ([some (.ref 53), some (.int (x))], [], σ)
  refine ev_br 1 [] (x < 0) 16 4 ([some (.ref 53), some (.int (x))], [], σ) rfl ?_ (fun c1 => ?_) (fun c1 => ?_)
  · trivial
  · refine ev_blk 1 [] 17 ([some (.ref 53), some (.int (x))], [.int ((0 : Int32))], σ) rfl ?_ ?_
    · trivial
    exact ev_iret rfl rfl nar0 (pu_f (by first | (intro h; exact absurd h.1 (by assumption)) | (simp_all; done) | (simp_all [iSh]; done)))
  · refine ev_br 3 [] ((σ 53 1) ≤ x) 16 12 ([some (.ref 53), some (.int (x))], [], σ) rfl ?_ (fun c9 => ?_) (fun c9 => ?_)
    · trivial
    · refine ev_blk 1 [] 17 ([some (.ref 53), some (.int (x))], [.int ((0 : Int32))], σ) rfl ?_ ?_
      · trivial
      exact ev_iret rfl rfl nar0 (pu_f (by first | (intro h; exact absurd h.1 (by assumption)) | (simp_all; done) | (simp_all [iSh]; done)))
    · refine ev_blk 2 [] 17 ([some (.ref 53), some (.int (x))], [.int ((1 : Int32))], σ) rfl ?_ ?_
      · trivial
      exact ev_iret rfl rfl nar1 (pu_t (by first | (intro h; exact absurd h.1 (by assumption)) | (simp_all; done) | (simp_all [iSh]; done)))
set_option maxRecDepth 100000 in
theorem c_hasRun2 (σ : xSg) (x n : Int32) : xPu M_X4_hasRun [.ref 53, .int (x), .int (n)] σ (.int (zi (¬ x < 0 ∧ ¬ n < 0 ∧ ¬ σ 53 1 < x ∧ ¬ σ 53 1 - x < n))) := by
  refine ctr_ev ok_X4_hasRun (by decide +kernel) rfl rfl rfl ?_
  show xEv (.inl 0) M_X4_hasRun _ 0 ([some (.ref 53), some (.int (x)), some (.int (n))], [], σ)
  refine ev_br 1 [] (x < 0) 30 4 ([some (.ref 53), some (.int (x)), some (.int (n))], [], σ) rfl ?_ (fun c1 => ?_) (fun c1 => ?_)
  · trivial
  · refine ev_blk 1 [] 31 ([some (.ref 53), some (.int (x)), some (.int (n))], [.int ((0 : Int32))], σ) rfl ?_ ?_
    · trivial
    exact ev_iret rfl rfl nar0 (pu_f (by first | (intro h; exact absurd h.1 (by assumption)) | (simp_all; done) | (simp_all [iSh]; done)))
  · refine ev_br 1 [] (n < 0) 30 8 ([some (.ref 53), some (.int (x)), some (.int (n))], [], σ) rfl ?_ (fun c5 => ?_) (fun c5 => ?_)
    · trivial
    · refine ev_blk 1 [] 31 ([some (.ref 53), some (.int (x)), some (.int (n))], [.int ((0 : Int32))], σ) rfl ?_ ?_
      · trivial
      exact ev_iret rfl rfl nar0 (pu_f (by first | (intro h; exact absurd h.1 (by assumption)) | (simp_all; done) | (simp_all [iSh]; done)))
    · refine ev_br 3 [] ((σ 53 1) < x) 30 16 ([some (.ref 53), some (.int (x)), some (.int (n))], [], σ) rfl ?_ (fun c13 => ?_) (fun c13 => ?_)
      · trivial
      · refine ev_blk 1 [] 31 ([some (.ref 53), some (.int (x)), some (.int (n))], [.int ((0 : Int32))], σ) rfl ?_ ?_
        · trivial
        exact ev_iret rfl rfl nar0 (pu_f (by first | (intro h; exact absurd h.1 (by assumption)) | (simp_all; done) | (simp_all [iSh]; done)))
      · refine ev_br 5 [] (((σ 53 1) - x) < n) 30 26 ([some (.ref 53), some (.int (x)), some (.int (n))], [], σ) rfl ?_ (fun c23 => ?_) (fun c23 => ?_)
        · trivial
        · refine ev_blk 1 [] 31 ([some (.ref 53), some (.int (x)), some (.int (n))], [.int ((0 : Int32))], σ) rfl ?_ ?_
          · trivial
          exact ev_iret rfl rfl nar0 (pu_f (by first | (intro h; exact absurd h.1 (by assumption)) | (simp_all; done) | (simp_all [iSh]; done)))
        · refine ev_blk 2 [] 31 ([some (.ref 53), some (.int (x)), some (.int (n))], [.int ((1 : Int32))], σ) rfl ?_ ?_
          · trivial
          exact ev_iret rfl rfl nar1 (pu_t (by first | (intro h; exact absurd h.1 (by assumption)) | (simp_all; done) | (simp_all [iSh]; done)))
set_option maxRecDepth 100000 in
theorem c_isMissing3 (σ : xSg) : xPu M_X4_isMissing [.ref 55] σ (.int (zi (σ 55 0 = -1))) := by
  refine ctr_ev ok_X4_isMissing (by decide +kernel) rfl rfl rfl ?_
  show xEv (.inl 0) M_X4_isMissing _ 0 ([some (.ref 55)], [], σ)
  refine ev_br 3 [] (¬ (σ 55 0) = (-1 : Int32)) 12 8 ([some (.ref 55)], [], σ) rfl ?_ (fun c5 => ?_) (fun c5 => ?_)
  · trivial
  · refine ev_blk 1 [] 13 ([some (.ref 55)], [.int ((0 : Int32))], σ) rfl ?_ ?_
    · trivial
    exact ev_iret rfl rfl nar0 (pu_f (by first | (intro h; exact absurd h.1 (by assumption)) | (simp_all; done) | (simp_all [iSh]; done)))
  · refine ev_blk 2 [] 13 ([some (.ref 55)], [.int ((1 : Int32))], σ) rfl ?_ ?_
    · trivial
    exact ev_iret rfl rfl nar1 (pu_t (by first | (intro h; exact absurd h.1 (by assumption)) | (simp_all; done) | (simp_all [iSh]; done)))
set_option maxRecDepth 100000 in
theorem c_has3 (σ : xSg) (x : Int32) : xPu M_X4_has [.ref 55, .int (x)] σ (.int (zi (¬ x < 0 ∧ ¬ σ 55 1 ≤ x))) := by
  refine ctr_ev ok_X4_has (by decide +kernel) rfl rfl rfl ?_
  show xEv (.inl 0) M_X4_has _ 0 ([some (.ref 55), some (.int (x))], [], σ)
  refine ev_br 1 [] (x < 0) 16 4 ([some (.ref 55), some (.int (x))], [], σ) rfl ?_ (fun c1 => ?_) (fun c1 => ?_)
  · trivial
  · refine ev_blk 1 [] 17 ([some (.ref 55), some (.int (x))], [.int ((0 : Int32))], σ) rfl ?_ ?_
    · trivial
    exact ev_iret rfl rfl nar0 (pu_f (by first | (intro h; exact absurd h.1 (by assumption)) | (simp_all; done) | (simp_all [iSh]; done)))
  · refine ev_br 3 [] ((σ 55 1) ≤ x) 16 12 ([some (.ref 55), some (.int (x))], [], σ) rfl ?_ (fun c9 => ?_) (fun c9 => ?_)
    · trivial
    · refine ev_blk 1 [] 17 ([some (.ref 55), some (.int (x))], [.int ((0 : Int32))], σ) rfl ?_ ?_
      · trivial
      exact ev_iret rfl rfl nar0 (pu_f (by first | (intro h; exact absurd h.1 (by assumption)) | (simp_all; done) | (simp_all [iSh]; done)))
    · refine ev_blk 2 [] 17 ([some (.ref 55), some (.int (x))], [.int ((1 : Int32))], σ) rfl ?_ ?_
      · trivial
      exact ev_iret rfl rfl nar1 (pu_t (by first | (intro h; exact absurd h.1 (by assumption)) | (simp_all; done) | (simp_all [iSh]; done)))
set_option maxRecDepth 100000 in
theorem c_hasRun3 (σ : xSg) (x n : Int32) : xPu M_X4_hasRun [.ref 55, .int (x), .int (n)] σ (.int (zi (¬ x < 0 ∧ ¬ n < 0 ∧ ¬ σ 55 1 < x ∧ ¬ σ 55 1 - x < n))) := by
  refine ctr_ev ok_X4_hasRun (by decide +kernel) rfl rfl rfl ?_
  show xEv (.inl 0) M_X4_hasRun _ 0 ([some (.ref 55), some (.int (x)), some (.int (n))], [], σ)
  refine ev_br 1 [] (x < 0) 30 4 ([some (.ref 55), some (.int (x)), some (.int (n))], [], σ) rfl ?_ (fun c1 => ?_) (fun c1 => ?_)
  · trivial
  · refine ev_blk 1 [] 31 ([some (.ref 55), some (.int (x)), some (.int (n))], [.int ((0 : Int32))], σ) rfl ?_ ?_
    · trivial
    exact ev_iret rfl rfl nar0 (pu_f (by first | (intro h; exact absurd h.1 (by assumption)) | (simp_all; done) | (simp_all [iSh]; done)))
  · refine ev_br 1 [] (n < 0) 30 8 ([some (.ref 55), some (.int (x)), some (.int (n))], [], σ) rfl ?_ (fun c5 => ?_) (fun c5 => ?_)
    · trivial
    · refine ev_blk 1 [] 31 ([some (.ref 55), some (.int (x)), some (.int (n))], [.int ((0 : Int32))], σ) rfl ?_ ?_
      · trivial
      exact ev_iret rfl rfl nar0 (pu_f (by first | (intro h; exact absurd h.1 (by assumption)) | (simp_all; done) | (simp_all [iSh]; done)))
    · refine ev_br 3 [] ((σ 55 1) < x) 30 16 ([some (.ref 55), some (.int (x)), some (.int (n))], [], σ) rfl ?_ (fun c13 => ?_) (fun c13 => ?_)
      · trivial
      · refine ev_blk 1 [] 31 ([some (.ref 55), some (.int (x)), some (.int (n))], [.int ((0 : Int32))], σ) rfl ?_ ?_
        · trivial
        exact ev_iret rfl rfl nar0 (pu_f (by first | (intro h; exact absurd h.1 (by assumption)) | (simp_all; done) | (simp_all [iSh]; done)))
      · refine ev_br 5 [] (((σ 55 1) - x) < n) 30 26 ([some (.ref 55), some (.int (x)), some (.int (n))], [], σ) rfl ?_ (fun c23 => ?_) (fun c23 => ?_)
        · trivial
        · refine ev_blk 1 [] 31 ([some (.ref 55), some (.int (x)), some (.int (n))], [.int ((0 : Int32))], σ) rfl ?_ ?_
          · trivial
          exact ev_iret rfl rfl nar0 (pu_f (by first | (intro h; exact absurd h.1 (by assumption)) | (simp_all; done) | (simp_all [iSh]; done)))
        · refine ev_blk 2 [] 31 ([some (.ref 55), some (.int (x)), some (.int (n))], [.int ((1 : Int32))], σ) rfl ?_ ?_
          · trivial
          exact ev_iret rfl rfl nar1 (pu_t (by first | (intro h; exact absurd h.1 (by assumption)) | (simp_all; done) | (simp_all [iSh]; done)))
set_option maxRecDepth 100000 in
theorem c_run (σ : xSg) (x : Int32) : xPu M_X2_run [.int (x)] σ (.int ((1 : Int32) <<< (x &&& 31) - 1)) := by
  refine ctr_ev ok_X2_run (by decide +kernel) rfl rfl rfl ?_
  show xEv (.inl 0) M_X2_run _ 0 ([some (.int (x))], [], σ)
  refine ev_blk 5 [] 5 ([some (.int (x))], [.int (((1 : Int32) <<< (x &&& 31)) - (1 : Int32))], σ) rfl ?_ ?_
  · trivial
  exact ev_iret rfl rfl rfl ⟨rfl, rfl⟩
set_option maxRecDepth 100000 in
theorem c_stateOf (σ : xSg) (x y : Int32) : xPu M_X1_stateOf [.int (x), .int (y)] σ (.int (x * 11 + y)) := by
  refine ctr_ev ok_X1_stateOf (by decide +kernel) rfl rfl rfl ?_
  show xEv (.inl 0) M_X1_stateOf _ 0 ([some (.int (x)), some (.int (y))], [], σ)
  refine ev_blk 5 [] 6 ([some (.int (x)), some (.int (y))], [.int ((x * (11 : Int32)) + y)], σ) rfl ?_ ?_
  · trivial
  exact ev_iret rfl rfl rfl ⟨rfl, rfl⟩
set_option maxRecDepth 100000 in
theorem c_waitOf (σ : xSg) (x : Int32) (h : ¬ x < 0 ∧ x < 10) : xPu M_X0_waitOf [.ref 31, .int (x)] σ (.int (σ 33 x.toNatClampNeg)) := by
  refine ctr_ev ok_X0_waitOf (by decide +kernel) rfl rfl rfl ?_
  show xEv (.inl 0) M_X0_waitOf _ 0 ([some (.ref 31), some (.int (x))], [], σ)
  refine ev_br 1 [] (x < 0) 10 4 ([some (.ref 31), some (.int (x))], [], σ) rfl ?_ (fun c1 => ?_) (fun c1 => ?_)
  · trivial
  · exact absurd c1 h.1
  · refine ev_br 2 [] (x < (10 : Int32)) 14 10 ([some (.ref 31), some (.int (x))], [], σ) rfl ?_ (fun c7 => ?_) (fun c7 => ?_)
    · trivial
    · refine ev_blk 4 [vp_in (x) 10] 20 ([some (.ref 31), some (.int (x))], [.int ((σ 33) x.toNatClampNeg)], σ) rfl ?_ ?_
      · first | exact vpi10' h.1 h.2 | exact ⟨vpi10' h.1 h.2, vpi10' h.1 h.2⟩
      exact ev_iret rfl rfl rfl ⟨rfl, rfl⟩
    · exact absurd h.2 c7
