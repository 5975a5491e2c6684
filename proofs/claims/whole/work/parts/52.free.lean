/-! freely: what may go in, and the best of it -/
def s_gos (a : sAt) : sFl → List Nat → Option sFl
  | F, [] => some F
  | F, x :: l => match s_in a x F with
    | none => none
    | some F' => s_gos a F' l
theorem s_gos_app (a : sAt) : ∀ (l : List Nat) (F : sFl) (r : List Nat), s_gos a F (l ++ r) = match s_gos a F l with
    | none => none
    | some F' => s_gos a F' r
  | [], _, _ => rfl
  | x :: l, F, r => by
    simp only [List.cons_append, s_gos]
    cases s_in a x F with
    | none => rfl
    | some F' => exact s_gos_app a l F' r
theorem s_gos_none {a : sAt} {l r : List Nat} {F : sFl} (h : s_gos a F l = none) : s_gos a F (l ++ r) = none := by rw [s_gos_app, h]
theorem s_gos_some {a : sAt} {l r : List Nat} {F G : sFl} (h : s_gos a F l = some G) : s_gos a F (l ++ r) = s_gos a G r := by rw [s_gos_app, h]
abbrev sV : Type := Int32 × Int32 × Int32 × Int32
abbrev v_le (v u : sV) : Prop := v.1 < u.1 ∨ (v.1 = u.1 ∧ v.2.1 ≤ u.2.1)
theorem v_tot (v u : sV) : v_le v u ∨ v_le u v := by
  unfold v_le
  rw [Int32.lt_iff_toInt_lt, Int32.le_iff_toInt_le, Int32.lt_iff_toInt_lt, Int32.le_iff_toInt_le, ← Int32.toInt_inj, ← Int32.toInt_inj]
  omega
theorem v_trans {v u x : sV} (h1 : v_le v u) (h2 : v_le u x) : v_le v x := by
  unfold v_le at *
  rw [Int32.lt_iff_toInt_lt, Int32.le_iff_toInt_le, ← Int32.toInt_inj] at *
  omega
/-- the class's choice: the latest of the best stays -/
def wS (acc v : sV) : sV := if acc.1 = -1 ∨ v_le v acc then v else acc
/-- the reference's: the first of the best stays -/
def sS (acc v : sV) : sV := if ¬ acc.1 = -1 ∧ v_le acc v then acc else v
def wO (acc : sV) : Option sV → sV
  | none => acc
  | some v => wS acc v
def sO (acc : sV) : Option sV → sV
  | none => acc
  | some v => sS acc v
theorem wS_i {acc v : sV} (h : acc.1 = -1) : wS acc v = v := by unfold wS; rw [if_pos (Or.inl h)]
theorem sS_i {acc v : sV} (h : acc.1 = -1) : sS acc v = v := by unfold sS; rw [if_neg (fun q => q.1 h)]
theorem wS_v {acc v : sV} (h : ¬ acc.1 = -1) : wS acc v = if v_le v acc then v else acc := by
  unfold wS
  by_cases q : v_le v acc
  · rw [if_pos q, if_pos (Or.inr q)]
  · rw [if_neg q, if_neg (fun z => z.elim h q)]
theorem sS_v {acc v : sV} (h : ¬ acc.1 = -1) : sS acc v = if v_le acc v then acc else v := by
  unfold sS
  by_cases q : v_le acc v
  · rw [if_pos q, if_pos ⟨h, q⟩]
  · rw [if_neg q, if_neg (fun z => q z.2)]
theorem wS_ok {acc v : sV} (h : acc.1 = -1 ∨ ¬ acc.1 = -1) (hv : ¬ v.1 = -1) : ¬ (wS acc v).1 = -1 := by
  rcases h with h | h
  · rw [wS_i h]; exact hv
  · rw [wS_v h]
    split
    · exact hv
    · exact h
theorem sS_ok {acc v : sV} (hv : ¬ v.1 = -1) : ¬ (sS acc v).1 = -1 := by
  unfold sS
  split
  next h => exact h.1
  next h => exact hv
theorem sw_key {m v u : sV} (hv : ¬ v.1 = -1) (hu : ¬ u.1 = -1) : wS m (sS v u) = wS (wS m u) v := by
  by_cases hm : m.1 = -1
  · rw [wS_i hm, wS_i hm, sS_v hv, wS_v hu]
  · rw [wS_v hm, wS_v hm, sS_v hv]
    by_cases h1 : v_le v u
    · rw [if_pos h1]
      by_cases h2 : v_le u m
      · rw [if_pos h2, if_pos (v_trans h1 h2), wS_v hu, if_pos h1]
      · rw [if_neg h2, wS_v hm]
    · rw [if_neg h1]
      by_cases h2 : v_le u m
      · rw [if_pos h2, wS_v hu, if_neg h1]
      · rw [if_neg h2, wS_v hm]
        have h3 : ¬ v_le v m := fun q => h1 (v_trans q ((v_tot u m).resolve_left h2))
        rw [if_neg h3]
def okV (l : List (Option sV)) : Prop := ∀ v, some v ∈ l → ¬ v.1 = -1
theorem sw_fold : ∀ {l : List (Option sV)} {z v : sV}, okV l → z.1 = -1 → ¬ v.1 = -1 → l.foldl sO v = wS (l.foldl sO z) v
  | [], z, v, _, hz, _ => (wS_i hz).symm
  | none :: l, z, v, h, hz, hv => sw_fold (l := l) (fun u hu => h u (List.mem_cons_of_mem _ hu)) hz hv
  | some u :: l, z, v, h, hz, hv => by
    have hu := h u List.mem_cons_self
    have hl : okV l := fun y hy => h y (List.mem_cons_of_mem _ hy)
    show l.foldl sO (sS v u) = wS (l.foldl sO (sS z u)) v
    rw [sw_fold (l := l) hl hz (sS_ok hu), sS_i hz, sw_fold (l := l) hl hz hu, sw_key hv hu]
theorem sw_rv {z : sV} (hz : z.1 = -1) : ∀ {r : List (Option sV)}, okV r → r.reverse.foldl wO z = r.foldl sO z
  | [], _ => rfl
  | o :: r, h => by
    have hr : okV r := fun y hy => h y (List.mem_cons_of_mem _ hy)
    rw [List.reverse_cons, List.foldl_append, sw_rv hz hr]
    cases o with
    | none => rfl
    | some v =>
      have hv := h v List.mem_cons_self
      show wS (r.foldl sO z) v = r.foldl sO (sS z v)
      rw [sS_i hz]
      exact (sw_fold hr hz hv).symm
theorem sw_rev {z : sV} (hz : z.1 = -1) {l : List (Option sV)} (h : okV l) : l.foldl wO z = l.reverse.foldl sO z := by
  have := sw_rv hz (r := l.reverse) (fun y hy => h y (List.mem_reverse.mp hy))
  rwa [List.reverse_reverse] at this
theorem wO_none {acc : sV} : ∀ {l : List (Option sV)}, (∀ o ∈ l, o = none) → l.foldl wO acc = acc
  | [], _ => rfl
  | o :: l, h => by
    rw [h o List.mem_cons_self]
    exact wO_none (l := l) (fun x hx => h x (List.mem_cons_of_mem _ hx))
theorem sO_none {acc : sV} : ∀ {l : List (Option sV)}, (∀ o ∈ l, o = none) → l.foldl sO acc = acc
  | [], _ => rfl
  | o :: l, h => by
    rw [h o List.mem_cons_self]
    exact sO_none (l := l) (fun x hx => h x (List.mem_cons_of_mem _ hx))
theorem wO_mem : ∀ {l : List (Option sV)} {acc : sV}, l.foldl wO acc = acc ∨ some (l.foldl wO acc) ∈ l
  | [], _ => Or.inl rfl
  | none :: l, acc => by
    rcases wO_mem (l := l) (acc := acc) with h | h
    · exact Or.inl h
    · exact Or.inr (List.mem_cons_of_mem _ h)
  | some v :: l, acc => by
    show l.foldl wO (wS acc v) = acc ∨ some (l.foldl wO (wS acc v)) ∈ _
    rcases wO_mem (l := l) (acc := wS acc v) with h | h
    · rw [h]
      unfold wS
      split
      · exact Or.inr List.mem_cons_self
      · exact Or.inl rfl
    · exact Or.inr (List.mem_cons_of_mem _ h)
abbrev sTb : Type := Nat → Nat → sV
/-- what a filling of p of lane 0, q of lane 1 comes to, when i, j are gone -/
def s_cnd (a : sAt) (tk : sTk) (A B : List Nat) (T : sTb) (i j p q : Nat) : Option sV := match s_gos a (tk, []) ((A.drop i).take p ++ (B.drop j).take q) with
  | none => none
  | some F => if p + q = 0 ∨ (T (i + p) (j + q)).1 = -1 then none else some ((T (i + p) (j + q)).1 + 1, (T (i + p) (j + q)).2.1 + s_spend a F.2, nI p, nI q)
def s_row (a : sAt) (tk : sTk) (A B : List Nat) (T : sTb) (i j p : Nat) : List (Option sV) := (List.range' 0 (B.length - j + 1)).map (s_cnd a tk A B T i j p)
def s_cl (a : sAt) (tk : sTk) (A B : List Nat) (T : sTb) (i j : Nat) : List (Option sV) := (List.range' 0 (A.length - i + 1)).flatMap (s_row a tk A B T i j)
def s_ini (A B : List Nat) (i j : Nat) : sV := if i = A.length ∧ j = B.length then (0, 0, 0, 0) else (-1, -1, -1, -1)
def s_fr (a : sAt) (tk : sTk) (A B : List Nat) : Nat → sTb
  | 0 => fun _ _ => (-1, -1, -1, -1)
  | m + 1 => fun i j => (s_cl a tk A B (s_fr a tk A B m) i j).foldl wO (s_ini A B i j)
theorem s_cnd_c {a : sAt} {tk : sTk} {A B : List Nat} {T T' : sTb} {i j p q : Nat} (h : 0 < p + q → T (i + p) (j + q) = T' (i + p) (j + q)) : s_cnd a tk A B T i j p q = s_cnd a tk A B T' i j p q := by
  unfold s_cnd
  cases s_gos a (tk, []) ((A.drop i).take p ++ (B.drop j).take q) with
  | none => rfl
  | some F =>
    dsimp only
    rcases Nat.eq_zero_or_pos (p + q) with e | e
    · rw [if_pos (Or.inl e), if_pos (Or.inl e)]
    · rw [h e]
theorem s_cl_c {a : sAt} {tk : sTk} {A B : List Nat} {T T' : sTb} {i j : Nat} (h : ∀ p q, p ≤ A.length - i → q ≤ B.length - j → 0 < p + q → T (i + p) (j + q) = T' (i + p) (j + q)) : s_cl a tk A B T i j = s_cl a tk A B T' i j := by
  unfold s_cl
  rw [List.flatMap_def, List.flatMap_def]
  congr 1
  refine List.map_congr_left (fun p hp => ?_)
  unfold s_row
  refine List.map_congr_left (fun q hq => ?_)
  simp only [List.mem_range'_1] at hp hq
  exact s_cnd_c (fun e => h p q (by omega) (by omega) e)
theorem s_fr_st {a : sAt} {tk : sTk} {A B : List Nat} : ∀ (m m' i j : Nat), i ≤ A.length → j ≤ B.length → (A.length - i) + (B.length - j) < m → (A.length - i) + (B.length - j) < m' → s_fr a tk A B m i j = s_fr a tk A B m' i j
  | 0, _, _, _, _, _, h, _ => absurd h (Nat.not_lt_zero _)
  | _ + 1, 0, _, _, _, _, _, h => absurd h (Nat.not_lt_zero _)
  | m + 1, m' + 1, i, j, hi, hj, h1, h2 => by
    show (s_cl a tk A B (s_fr a tk A B m) i j).foldl wO (s_ini A B i j) = (s_cl a tk A B (s_fr a tk A B m') i j).foldl wO (s_ini A B i j)
    rw [s_cl_c (fun p q hp hq e => s_fr_st m m' (i + p) (j + q) (by omega) (by omega) (by omega) (by omega))]
/-- the table -/
def s_T (a : sAt) (tk : sTk) (A B : List Nat) : sTb := s_fr a tk A B 21
theorem s_T_eq {a : sAt} {tk : sTk} {A B : List Nat} {i j : Nat} (hl : A.length + B.length ≤ 10) (hi : i ≤ A.length) (hj : j ≤ B.length) : s_T a tk A B i j = (s_cl a tk A B (s_T a tk A B) i j).foldl wO (s_ini A B i j) := by
  show (s_cl a tk A B (s_fr a tk A B 20) i j).foldl wO (s_ini A B i j) = _
  rw [s_cl_c (T' := s_T a tk A B) (fun p q hp hq e => s_fr_st 20 21 (i + p) (j + q) (by omega) (by omega) (by omega) (by omega))]
theorem s_cl_mem {a : sAt} {tk : sTk} {A B : List Nat} {T : sTb} {i j : Nat} {v : sV} (h : some v ∈ s_cl a tk A B T i j) : ∃ p q, p ≤ A.length - i ∧ q ≤ B.length - j ∧ 0 < p + q ∧ ¬ (T (i + p) (j + q)).1 = -1 ∧ v.1 = (T (i + p) (j + q)).1 + 1 := by
  unfold s_cl at h
  obtain ⟨p, hp, h⟩ := List.mem_flatMap.mp h
  unfold s_row at h
  obtain ⟨q, hq, h⟩ := List.mem_map.mp h
  simp only [List.mem_range'_1] at hp hq
  unfold s_cnd at h
  split at h
  · cases h
  next F hF =>
    split at h
    · cases h
    next hn =>
      cases h
      exact ⟨p, q, by omega, by omega, Nat.pos_of_ne_zero (fun z => hn (Or.inl z)), fun z => hn (Or.inr z), rfl⟩
theorem s_fr_rg {a : sAt} {tk : sTk} {A B : List Nat} : ∀ (m i j : Nat), i ≤ A.length → j ≤ B.length → (A.length - i) + (B.length - j) < m → (s_fr a tk A B m i j).1 = -1 ∨ ∃ k, k ≤ (A.length - i) + (B.length - j) ∧ (s_fr a tk A B m i j).1 = nI k
  | 0, _, _, _, _, h => absurd h (Nat.not_lt_zero _)
  | m + 1, i, j, hi, hj, h => by
    show ((s_cl a tk A B (s_fr a tk A B m) i j).foldl wO (s_ini A B i j)).1 = -1 ∨ ∃ k, _ ∧ ((s_cl a tk A B (s_fr a tk A B m) i j).foldl wO (s_ini A B i j)).1 = nI k
    rcases wO_mem (l := s_cl a tk A B (s_fr a tk A B m) i j) (acc := s_ini A B i j) with e | e
    · rw [e]
      unfold s_ini
      split
      · exact Or.inr ⟨0, Nat.zero_le _, rfl⟩
      · exact Or.inl rfl
    · obtain ⟨p, q, hp, hq, h0, hT, hv⟩ := s_cl_mem e
      rcases s_fr_rg (a := a) (tk := tk) (A := A) (B := B) m (i + p) (j + q) (by omega) (by omega) (by omega) with z | ⟨k, hk, z⟩
      · exact absurd z hT
      · exact Or.inr ⟨k + 1, by omega, by rw [hv, z]; exact nI_1 k⟩
theorem s_T_ok {a : sAt} {tk : sTk} {A B : List Nat} {i j : Nat} (hl : A.length + B.length ≤ 10) (hi : i ≤ A.length) (hj : j ≤ B.length) : okV (s_cl a tk A B (s_T a tk A B) i j) := by
  intro v hv
  obtain ⟨p, q, hp, hq, h0, hT, e⟩ := s_cl_mem hv
  rcases s_fr_rg (a := a) (tk := tk) (A := A) (B := B) 21 (i + p) (j + q) (by omega) (by omega) (by omega) with z | ⟨k, hk, z⟩
  · exact absurd z hT
  · rw [e, show (s_T a tk A B (i + p) (j + q)).1 = nI k from z, nI_1]
    exact nI_m1 (by omega)
/-- the reference's way through the same candidates -/
theorem s_T_eqR {a : sAt} {tk : sTk} {A B : List Nat} {i j : Nat} (hl : A.length + B.length ≤ 10) (hi : i ≤ A.length) (hj : j ≤ B.length) : s_T a tk A B i j = (s_cl a tk A B (s_T a tk A B) i j).reverse.foldl sO (s_ini A B i j) := by
  rw [s_T_eq hl hi hj]
  by_cases he : i = A.length ∧ j = B.length
  · have hn : ∀ o ∈ s_cl a tk A B (s_T a tk A B) i j, o = none := by
      intro o ho
      cases o with
      | none => rfl
      | some v =>
        obtain ⟨p, q, hp, hq, h0, -, -⟩ := s_cl_mem ho
        omega
    rw [wO_none hn, sO_none (fun o ho => hn o (List.mem_reverse.mp ho))]
  · exact sw_rev (by unfold s_ini; rw [if_neg he]) (s_T_ok hl hi hj)
