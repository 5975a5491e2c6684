/-! the document's words as functions on numbers, lists and rows -/
def bt (x : Int32) (i : Nat) : Bool := x.toBitVec.getLsbD i
theorem b_ext {x y : Int32} (h : ∀ i, i < 32 → bt x i = bt y i) : x = y := Int32.toBitVec_inj.mp (BitVec.eq_of_getLsbD_eq (fun i hi => h i hi))
theorem b_or (x y : Int32) (i : Nat) : bt (x ||| y) i = (bt x i || bt y i) := by unfold bt; rw [Int32.toBitVec_or, BitVec.getLsbD_or]
theorem b_and (x y : Int32) (i : Nat) : bt (x &&& y) i = (bt x i && bt y i) := by unfold bt; rw [Int32.toBitVec_and, BitVec.getLsbD_and]
theorem b_xor (x y : Int32) (i : Nat) : bt (x ^^^ y) i = (bt x i ^^ bt y i) := by unfold bt; rw [Int32.toBitVec_xor, BitVec.getLsbD_xor]
theorem b_m1 : ∀ i, i < 32 → bt (-1) i = true := by decide +kernel
theorem b_0 (i : Nat) : bt 0 i = false := BitVec.getLsbD_zero
theorem s_l : ∀ n, n < 32 → ((nI n &&& 31).toBitVec.smod 32).toNat = n := by decide +kernel
theorem b_sshr (n : Nat) (hn : n < 32) (x : Int32) {i : Nat} (hi : i < 32) : bt (x >>> (nI n &&& 31)) i = if n + i < 32 then bt x (n + i) else bt x 31 := by
  unfold bt
  rw [Int32.toBitVec_shiftRight]
  show (x.toBitVec.sshiftRight ((nI n &&& 31).toBitVec.smod 32).toNat).getLsbD i = _
  rw [s_l n hn, BitVec.getLsbD_sshiftRight, BitVec.msb_eq_getLsbD_last]
  simp [hi]
theorem b_one : ∀ i, i < 32 → bt 1 i = decide (i = 0) := by decide +kernel
theorem b_zero {x : Int32} : x = 0 ↔ ∀ i, i < 32 → bt x i = false := ⟨fun h i _ => by rw [h]; exact b_0 i, fun h => b_ext (fun i hi => by rw [h i hi, b_0])⟩
/-- the code's test of a bit -/
theorem b_tst {x : Int32} {j : Nat} (hj : j < 32) : (x >>> (nI j &&& 31)) &&& 1 = 0 ↔ bt x j = false := by
  rw [b_zero]
  constructor
  · intro h
    have h0 := h 0 (by decide)
    rw [b_and, b_sshr j hj x (by decide), b_one 0 (by decide)] at h0
    simpa [hj] using h0
  · intro h i hi
    rw [b_and, b_one i hi]
    by_cases h0 : i = 0
    · subst h0
      rw [b_sshr j hj x (by decide)]
      simp [hj, h]
    · simp [h0]
theorem b_bit : ∀ j, j < 32 → ∀ i, i < 32 → bt ((1 : Int32) <<< (nI j &&& 31)) i = decide (i = j) := by decide +kernel
theorem b_not {x : Int32} {i : Nat} (hi : i < 32) : bt (x ^^^ -1) i = !bt x i := by rw [b_xor, b_m1 i hi]; simp
theorem b_clr {x : Int32} {j i : Nat} (hj : j < 32) (hi : i < 32) : bt (x &&& (((1 : Int32) <<< (nI j &&& 31)) ^^^ -1)) i = (bt x i && !decide (i = j)) := by rw [b_and, b_not hi, b_bit j hj i hi]
theorem b_setb {x : Int32} {j i : Nat} (hj : j < 32) (hi : i < 32) : bt (x ||| ((1 : Int32) <<< (nI j &&& 31))) i = (bt x i || decide (i = j)) := by rw [b_or, b_bit j hj i hi]
theorem b_msk : ∀ sp, sp < 21 → ∀ p, p < 21 → p + sp ≤ 20 → ∀ i, i < 32 → bt (((1 : Int32) <<< (nI sp &&& 31) - 1) <<< (nI p &&& 31)) i = (decide (p ≤ i) && decide (i < p + sp)) := by decide +kernel
abbrev sAt : Type := (Nat → Int32) × (Nat → Int32) × (Nat → Int32) × (Nat → Int32) × (Nat → Int32) × (Nat → Int32) × (Nat → Int32)
abbrev aK (a : sAt) : Nat → Int32 := a.1
abbrev aLn (a : sAt) : Nat → Int32 := a.2.1
abbrev aFi (a : sAt) : Nat → Int32 := a.2.2.1
abbrev aLo (a : sAt) : Nat → Int32 := a.2.2.2.1
abbrev aCo (a : sAt) : Nat → Int32 := a.2.2.2.2.1
abbrev aLa (a : sAt) : Nat → Int32 := a.2.2.2.2.2.1
abbrev aS (a : sAt) : Nat → Int32 := a.2.2.2.2.2.2
abbrev atC (σ : xSg) : sAt := (σ 2, σ 3, σ 4, σ 5, σ 6, σ 7, σ 9)
abbrev atM (σ : xSg) : sAt := (σ 58, σ 59, σ 60, σ 61, σ 62, σ 63, σ 68)
/-- what stands in a row is a number from lo to hi -/
def rg (x : Int32) (lo hi : Nat) : Prop := ∃ j : Nat, x = nI j ∧ lo ≤ j ∧ j ≤ hi
/-- the attributes of n ships, and the chamber, are as told -/
def aOk (a : sAt) (n : Nat) : Prop := n ≤ 10 ∧ (∀ i, i < n → rg (aK a i) 0 5 ∧ rg (aLn a i) 1 9 ∧ rg (aFi a i) 0 9 ∧ rg (aLo a i) 0 999 ∧ rg (aCo a i) 0 999 ∧ rg (aLa a i) 0 1) ∧
  rg (aS a 0) 1 20 ∧ rg (aS a 1) 1 3 ∧ rg (aS a 2) 1 99 ∧ rg (aS a 3) 1 60 ∧ rg (aS a 4) 0 4
abbrev sTk : Type := Nat → Nat → Bool
abbrev sFl : Type := sTk × List (Nat × Nat × Nat)
abbrev sSt : Type := List Nat × List Nat × Bool × Bool × Bool × sFl
def s_long (a : sAt) : Nat := (aS a 0).toNatClampNeg
def s_rows (a : sAt) : Nat := (aS a 1).toNatClampNeg
def s_sp (a : sAt) (x : Nat) : Nat := (s_span (aK a) (aLn a) x).toNatClampNeg
def s_fit (tk : sTk) (sp r p : Nat) : Bool := (List.range sp).all fun q => !tk r (p + q)
def s_plr (tk : sTk) (sp r : Nat) : Nat → Nat → Option Nat
  | 0, _ => none
  | n + 1, p => if s_fit tk sp r p then some p else s_plr tk sp r n (p + 1)
def s_plc (a : sAt) (tk : sTk) (sp : Nat) : Nat → Nat → Option (Nat × Nat)
  | 0, _ => none
  | n + 1, r => match s_plr tk sp r (s_long a + 1 - sp) 0 with
    | some p => some (r, p)
    | none => s_plc a tk sp n (r + 1)
def s_mark (tk : sTk) (r p sp : Nat) : sTk := fun r' q => tk r' q || (decide (r' = r) && decide (p ≤ q) && decide (q < p + sp))
def s_tank (a : sAt) (w : List (Nat × Nat × Nat)) : Bool := match w with
  | [] => false
  | q :: _ => decide (aK a q.1 = 5)
def s_bar (a : sAt) (x : Nat) (w : List (Nat × Nat × Nat)) : Bool := !w.isEmpty && (decide (aK a x = 5) || s_tank a w)
def s_in (a : sAt) (x : Nat) (F : sFl) : Option sFl := if s_bar a x F.2 = true then none
  else match s_plc a F.1 (s_sp a x) (s_rows a) 0 with
    | some (r, p) => some (s_mark F.1 r p (s_sp a x), F.2 ++ [(x, r, p)])
    | none => none
/-- whether the head y of lane 1 is taken ahead of the head x of lane 0 -/
def s_sec (a : sAt) (x y : Nat) (lt : Bool) : Bool :=
  if aS a 4 = 1 then decide (s_rank (aK a) (aFi a) x < s_rank (aK a) (aFi a) y)
  else if aS a 4 = 2 then decide (s_span (aK a) (aLn a) y < s_span (aK a) (aLn a) x)
  else if aS a 4 = 3 then decide (aCo a y < aCo a x)
  else if aS a 4 = 4 then decide (aLo a x < aLo a y)
  else lt
/-- the ship of the next step, and its lane: lists are the heads of lanes that are open -/
def s_pick (a : sAt) (lt : Bool) : List Nat → List Nat → Option (Nat × Bool)
  | [], [] => none
  | x :: _, [] => some (x, false)
  | [], y :: _ => some (y, true)
  | x :: _, y :: _ => if s_sec a x y lt = true then some (y, true) else some (x, false)
def s_opn (o : Bool) (L : List Nat) : List Nat := if o = true then L else []
def s_step (a : sAt) (s : sSt) : Option sSt := match s_pick a s.2.2.2.2.1 (s_opn s.2.2.1 s.1) (s_opn s.2.2.2.1 s.2.1) with
  | none => none
  | some (x, false) => match s_in a x s.2.2.2.2.2 with
    | some F => some (s.1.tail, s.2.1, s.2.2.1, s.2.2.2.1, true, F)
    | none => some (s.1, s.2.1, false, s.2.2.2.1, s.2.2.2.2.1, s.2.2.2.2.2)
  | some (y, true) => match s_in a y s.2.2.2.2.2 with
    | some F => some (s.1, s.2.1.tail, s.2.2.1, s.2.2.2.1, false, F)
    | none => some (s.1, s.2.1, s.2.2.1, false, s.2.2.2.2.1, s.2.2.2.2.2)
def s_run (a : sAt) : Nat → sSt → sSt
  | 0, s => s
  | n + 1, s => match s_step a s with
    | none => s
    | some s' => s_run a n s'
/-- how many steps are left at most -/
def s_mu (s : sSt) : Nat := s.1.length + s.2.1.length + (if s.2.2.1 = true then 1 else 0) + (if s.2.2.2.1 = true then 1 else 0)
/-- a filling of those that stand in two lanes, in a chamber with these places barred -/
def s_fill (a : sAt) (tk : sTk) (L0 L1 : List Nat) : sSt := s_run a 12 (L0, L1, true, true, false, (tk, []))
def s_went (s : sSt) : List (Nat × Nat × Nat) := s.2.2.2.2.2.2
def s_lds (a : sAt) : List (Nat × Nat × Nat) → Int32
  | [] => 0
  | q :: l => aLo a q.1 + s_lds a l
def s_spend (a : sAt) (w : List (Nat × Nat × Nat)) : Int32 := x_mx 0 (aS a 0 * aS a 1 * aS a 2 - s_lds a w)
theorem s_pick_0 {a : sAt} {lt : Bool} {A B : List Nat} {x : Nat} (h : s_pick a lt A B = some (x, false)) : ∃ t, A = x :: t := by
  unfold s_pick at h
  split at h
  · cases h
  · cases h; exact ⟨_, rfl⟩
  · cases h
  · split at h
    · cases h
    · cases h; exact ⟨_, rfl⟩
theorem s_pick_1 {a : sAt} {lt : Bool} {A B : List Nat} {x : Nat} (h : s_pick a lt A B = some (x, true)) : ∃ t, B = x :: t := by
  unfold s_pick at h
  split at h
  · cases h
  · cases h
  · cases h; exact ⟨_, rfl⟩
  · split at h
    · cases h; exact ⟨_, rfl⟩
    · cases h
theorem s_opn_c {o : Bool} {L : List Nat} {x : Nat} {t : List Nat} (h : s_opn o L = x :: t) : o = true ∧ L = x :: t := by
  unfold s_opn at h
  split at h
  next e => exact ⟨e, h⟩
  next => cases h
theorem s_step_mu {a : sAt} {s s' : sSt} (h : s_step a s = some s') : s_mu s' + 1 = s_mu s := by
  obtain ⟨A, B, o0, o1, lt, F⟩ := s
  unfold s_step at h
  dsimp only at h
  split at h
  · cases h
  next x hp =>
    obtain ⟨t, ht⟩ := s_pick_0 hp
    obtain ⟨rfl, rfl⟩ := s_opn_c ht
    split at h
    · cases h; simp [s_mu]; omega
    · cases h; simp [s_mu]; omega
  next y hp =>
    obtain ⟨t, ht⟩ := s_pick_1 hp
    obtain ⟨rfl, rfl⟩ := s_opn_c ht
    split at h
    · cases h; simp [s_mu]; omega
    · cases h; simp [s_mu]
theorem s_run_add (a : sAt) : ∀ (n : Nat) (s : sSt), s_mu s ≤ n → s_run a (n + 1) s = s_run a n s
  | 0, s, h => by
    show (match s_step a s with | none => s | some s' => s_run a 0 s') = s
    cases hs : s_step a s with
    | none => rfl
    | some s' => have := s_step_mu hs; omega
  | n + 1, s, h => by
    show (match s_step a s with | none => s | some s' => s_run a (n + 1) s') = (match s_step a s with | none => s | some s' => s_run a n s')
    cases hs : s_step a s with
    | none => rfl
    | some s' =>
      have := s_step_mu hs
      exact s_run_add a n s' (by omega)
theorem s_run_none {a : sAt} {n : Nat} {s : sSt} (h : s_step a s = none) : s_run a n s = s := by
  cases n with
  | zero => rfl
  | succ n => show (match s_step a s with | none => s | some s' => s_run a n s') = s; rw [h]
theorem s_run_some {a : sAt} {n : Nat} {s s' : sSt} (h : s_step a s = some s') : s_run a (n + 1) s = s_run a n s' := by
  show (match s_step a s with | none => s | some s' => s_run a n s') = _; rw [h]
theorem s_fit_iff {tk : sTk} {sp r p : Nat} : s_fit tk sp r p = true ↔ ∀ q, p ≤ q → q < p + sp → tk r q = false := by
  unfold s_fit
  rw [List.all_eq_true]
  constructor
  · intro h q h1 h2
    have := h (q - p) (List.mem_range.mpr (by omega))
    rw [Nat.add_sub_cancel' h1] at this
    simpa using this
  · intro h q hq
    have := h (p + q) (by omega) (by have := List.mem_range.mp hq; omega)
    simpa using this
