/-! the world of cells, the locals, what a method's context holds -/
theorem x_nth_eq {α : Type} : ∀ (l : List α) (i : Nat), x_nth l i = l[i]?
  | [], i => by simp [x_nth]
  | a :: l, 0 => by simp [x_nth]
  | a :: l, i + 1 => by simp [x_nth, x_nth_eq l i]
theorem x_lk_mem {α : Type} : ∀ {l : List (Nat × α)} {i : Nat} {a : α}, x_lk l i = some a → (i, a) ∈ l
  | [], _, _, h => by simp [x_lk] at h
  | (j, b) :: l, i, a, h => by
    unfold x_lk at h
    cases hb : Nat.beq i j with
    | true =>
      rw [hb] at h
      have hij : i = j := Nat.eq_of_beq_eq_true hb
      cases h
      rw [hij]
      exact List.mem_cons_self
    | false =>
      rw [hb] at h
      exact List.mem_cons_of_mem _ (x_lk_mem h)
theorem x_shl_len : x_shl.length = x_K := by decide +kernel
theorem x_sh_lt {k t n : Nat} {rs : List (Option Nat)} (h : x_sh k = (t, n, rs)) (ht : t ≠ 9) : k < x_K := by
  unfold x_sh at h
  rw [x_nth_eq] at h
  rw [← x_shl_len]
  cases hk : x_shl[k]? with
  | none =>
    rw [hk] at h
    cases h
    exact absurd rfl ht
  | some r => exact (List.getElem?_eq_some_iff.mp hk).1
def x_fs (ad : Nat → Nat) (f : Nat → Int32) : Nat → List (Option Nat) → List Value
  | _, [] => []
  | i, some r :: l => .ref (ad r) :: x_fs ad f (i + 1) l
  | i, none :: l => .int (f i) :: x_fs ad f (i + 1) l
def x_rf (ad : Nat → Nat) (rs : List (Option Nat)) (i : Nat) : Option Nat := match x_nth rs i with
  | some r => r.map ad
  | none => none
def x_ent (ca : Nat → ClassId) (ad : Nat → Nat) (σ : xSg) (k : Nat) : va_E := match x_sh k with
  | (0, c, rs) => .inr (c, x_fs ad (σ k) 0 rs)
  | (3, n, rs) => .inl (ca k, n, .inr (.inr (.inr (.inr (x_rf ad rs)))))
  | (_, n, _) => .inl (ca k, n, .inl (σ k))
def x_wl (ca : Nat → ClassId) (ad : Nat → Nat) (σ : xSg) : va_W := (List.range x_K).map fun k => (ad k, x_ent ca ad σ k)
def x_ety (k : Nat) : FieldType := match (x_sh k).1 with
  | 2 => .boolean
  | 3 => .object "LaneLock$Sheet"
  | _ => .int
def x_tys (ca : Nat → ClassId) : List (ClassId × FieldType) := ((List.range x_K).filter fun k => !(Nat.beq (x_sh k).1 0)).map fun k => (ca k, x_ety k)
theorem x_wl_at {ca : Nat → ClassId} {ad : Nat → Nat} {σ : xSg} {k : Nat} (h : k < x_K) : (x_wl ca ad σ)[k]? = some (ad k, x_ent ca ad σ k) := by
  unfold x_wl
  rw [List.getElem?_map, List.getElem?_range h]
  rfl
theorem x_wl_len {ca : Nat → ClassId} {ad : Nat → Nat} {σ : xSg} : (x_wl ca ad σ).length = x_K := by simp [x_wl]
theorem x_wl_set {ca : Nat → ClassId} {ad : Nat → Nat} {σ σ' : xSg} {k : Nat} {e : va_E} (h : k < x_K) (ho : ∀ j, j ≠ k → σ' j = σ j) (he : e = x_ent ca ad σ' k) : (x_wl ca ad σ).set k (ad k, e) = x_wl ca ad σ' := by
  apply List.ext_getElem?
  intro j
  by_cases hj : j = k
  · subst hj
    rw [List.getElem?_set_self (by rw [x_wl_len]; exact h), x_wl_at h, he]
  · rw [List.getElem?_set_ne (Ne.symm hj)]
    by_cases hl : j < x_K
    · rw [x_wl_at hl, x_wl_at hl]
      unfold x_ent
      rw [ho j hj]
    · rw [List.getElem?_eq_none (by rw [x_wl_len]; omega), List.getElem?_eq_none (by rw [x_wl_len]; omega)]
theorem x_up_ne {σ : xSg} {k j : Nat} {g : Nat → Int32} (h : j ≠ k) : x_up σ k g j = σ j := by unfold x_up; rw [if_neg h]
theorem x_up_eq {σ : xSg} {k : Nat} {g : Nat → Int32} : x_up σ k g k = g := by unfold x_up; rw [if_pos rfl]
theorem x_tys_at (ca : Nat → ClassId) {k t n : Nat} {rs : List (Option Nat)} (h : x_sh k = (t, n, rs)) (h0 : t ≠ 0) (h9 : t ≠ 9) : ∃ i : Nat, (x_tys ca)[i]? = some (ca k, x_ety k) := by
  have hm : (ca k, x_ety k) ∈ x_tys ca := List.mem_map.mpr ⟨k, List.mem_filter.mpr ⟨List.mem_range.mpr (x_sh_lt h h9), by rw [h]; cases t with
    | zero => exact absurd rfl h0
    | succ t => rfl⟩, rfl⟩
  obtain ⟨i, hi⟩ := List.getElem?_of_mem hm
  exact ⟨i, hi⟩
theorem x_fs_congr (ad : Nat → Nat) {f g : Nat → Int32} : ∀ (rs : List (Option Nat)) (j : Nat), (∀ i, j ≤ i → f i = g i) → x_fs ad f j rs = x_fs ad g j rs
  | [], _, _ => rfl
  | some r :: l, j, h => by simp only [x_fs]; rw [x_fs_congr ad l (j + 1) (fun i hi => h i (by omega))]
  | none :: l, j, h => by simp only [x_fs]; rw [x_fs_congr ad l (j + 1) (fun i hi => h i (by omega)), h j (Nat.le_refl _)]
theorem x_fs_int (ad : Nat → Nat) (f : Nat → Int32) : ∀ (rs : List (Option Nat)) (j i : Nat), x_nth rs i = some none → (x_fs ad f j rs)[i]? = some (.int (f (j + i)))
  | [], _, _, h => by simp [x_nth] at h
  | some r :: l, j, 0, h => by simp [x_nth] at h
  | none :: l, j, 0, h => by simp [x_fs]
  | some r :: l, j, i + 1, h => by
    have := x_fs_int ad f l (j + 1) i (by simpa [x_nth] using h)
    simp only [x_fs, List.getElem?_cons_succ, this]; congr 3; omega
  | none :: l, j, i + 1, h => by
    have := x_fs_int ad f l (j + 1) i (by simpa [x_nth] using h)
    simp only [x_fs, List.getElem?_cons_succ, this]; congr 3; omega
theorem x_fs_ref (ad : Nat → Nat) (f : Nat → Int32) : ∀ (rs : List (Option Nat)) (j i r : Nat), x_nth rs i = some (some r) → (x_fs ad f j rs)[i]? = some (.ref (ad r))
  | [], _, _, _, h => by simp [x_nth] at h
  | some a :: l, j, 0, r, h => by
    simp only [x_nth, Option.some.injEq] at h
    simp [x_fs, h]
  | none :: l, j, 0, r, h => by simp [x_nth] at h
  | some a :: l, j, i + 1, r, h => by
    have := x_fs_ref ad f l (j + 1) i r (by simpa [x_nth] using h)
    simp only [x_fs, List.getElem?_cons_succ, this]
  | none :: l, j, i + 1, r, h => by
    have := x_fs_ref ad f l (j + 1) i r (by simpa [x_nth] using h)
    simp only [x_fs, List.getElem?_cons_succ, this]
theorem x_fs_set (ad : Nat → Nat) (f : Nat → Int32) (x : Int32) : ∀ (rs : List (Option Nat)) (j i : Nat), x_nth rs i = some none → (x_fs ad f j rs).set i (.int x) = x_fs ad (upd f (j + i) x) j rs
  | [], _, _, h => by simp [x_nth] at h
  | some r :: l, j, 0, h => by simp [x_nth] at h
  | none :: l, j, 0, h => by
    simp only [x_fs, List.set_cons_zero, Nat.add_zero]
    rw [x_fs_congr ad l (j + 1) (f := f) (g := upd f j x) (fun i hi => by unfold upd; rw [if_neg (by omega)])]
    simp [upd]
  | some r :: l, j, i + 1, h => by
    have := x_fs_set ad f x l (j + 1) i (by simpa [x_nth] using h)
    simp only [x_fs, List.set_cons_succ, this]
    rw [show j + 1 + i = j + (i + 1) by omega]
  | none :: l, j, i + 1, h => by
    have := x_fs_set ad f x l (j + 1) i (by simpa [x_nth] using h)
    simp only [x_fs, List.set_cons_succ, this]
    rw [show j + 1 + i = j + (i + 1) by omega]
    simp [upd]
theorem x_fs_lt (ad : Nat → Nat) (f : Nat → Int32) (rs : List (Option Nat)) (j i : Nat) (h : x_nth rs i = some none) : i < (x_fs ad f j rs).length :=
  (List.getElem?_eq_some_iff.mp (x_fs_int ad f rs j i h)).1
/-! locals -/
def x_L (ad : Nat → Nat) (ls : Array Slot) (nL : Nat) (L : List (Option Value)) : Prop := ls.size = nL ∧ lv_wf ls ∧ ∀ (i : Nat) (v : Value), x_get L i = some v → ls[i]? = some (.val (x_cv ad v))
def x_lvl (ad : Nat → Nat) : Nat → List (Option Value) → List (Nat × Value)
  | _, [] => []
  | i, none :: l => x_lvl ad (i + 1) l
  | i, some v :: l => (i, x_cv ad v) :: x_lvl ad (i + 1) l
theorem x_cv_cat (ad : Nat → Nat) (v : Value) : (x_cv ad v).category = v.category := by cases v <;> rfl
theorem x_lvl_mem (ad : Nat → Nat) : ∀ (L : List (Option Value)) (i : Nat) (q : Nat × Value), q ∈ x_lvl ad i L ↔ ∃ j v, x_get L j = some v ∧ q = (i + j, x_cv ad v)
  | [], i, q => by simp [x_lvl, x_get]
  | none :: l, i, q => by
    simp only [x_lvl]
    rw [x_lvl_mem ad l (i + 1) q]
    constructor
    · rintro ⟨j, v, h1, rfl⟩
      exact ⟨j + 1, v, h1, by congr 1; omega⟩
    · rintro ⟨j, v, h1, rfl⟩
      cases j with
      | zero => simp [x_get] at h1
      | succ j => exact ⟨j, v, h1, by congr 1; omega⟩
  | some w :: l, i, q => by
    simp only [x_lvl, List.mem_cons]
    rw [x_lvl_mem ad l (i + 1) q]
    constructor
    · rintro (rfl | ⟨j, v, h1, rfl⟩)
      · exact ⟨0, w, rfl, rfl⟩
      · exact ⟨j + 1, v, h1, by congr 1; omega⟩
    · rintro ⟨j, v, h1, rfl⟩
      cases j with
      | zero =>
        simp only [x_get, Option.some.injEq] at h1
        subst h1
        exact Or.inl rfl
      | succ j => exact Or.inr ⟨j, v, h1, by congr 1; omega⟩
theorem x_L.has {ad : Nat → Nat} {ls : Array Slot} {nL : Nat} {L : List (Option Value)} (h : x_L ad ls nL L) : lv_has ls nL (x_lvl ad 0 L) := by
  refine ⟨h.1, h.2.1, fun q hq => ?_⟩
  obtain ⟨j, v, h1, rfl⟩ := (x_lvl_mem ad L 0 q).mp hq
  rw [Nat.zero_add]
  exact h.2.2 j v h1
theorem x_get_set_ne : ∀ (L : List (Option Value)) (i j : Nat) (a : Option Value), j ≠ i → x_get (x_set L i a) j = x_get L j
  | [], _, _, _, _ => rfl
  | _ :: _, 0, 0, _, h => absurd rfl h
  | _ :: _, 0, j + 1, _, _ => rfl
  | _ :: _, i + 1, 0, _, _ => rfl
  | _ :: l, i + 1, j + 1, a, h => x_get_set_ne l i j a (by omega)
theorem x_get_set_eq : ∀ (L : List (Option Value)) (i : Nat) (a : Option Value) (v : Value), x_get (x_set L i a) i = some v → a = some v
  | [], _, _, _, h => by simp [x_set, x_get] at h
  | _ :: _, 0, _, _, h => h
  | _ :: l, i + 1, a, v, h => x_get_set_eq l i a v h
theorem x_two_cat {v : Value} (h : x_two (some v) = false) : v.category = 1 := by cases v <;> simp_all [x_two, Value.category]
theorem x_L.st1 {ad : Nat → Nat} {ls' : Array Slot} {nL i : Nat} {L : List (Option Value)} {v : Value} (hp : x_plg L i = false)
    (h : lv_has ls' nL ((i, x_cv ad v) :: (x_lvl ad 0 L).filter (fun q => !(q.1 == i) && !(q.1 + 1 == i && q.2.category == 2)))) : x_L ad ls' nL (x_set L i (some v)) := by
  refine ⟨h.1, h.2.1, fun j w hj => ?_⟩
  by_cases hji : j = i
  · subst hji
    have := x_get_set_eq L j (some v) w hj
    cases this
    exact h.2.2 _ List.mem_cons_self
  · rw [x_get_set_ne L i j _ hji] at hj
    refine h.2.2 (j, x_cv ad w) (List.mem_cons_of_mem _ (List.mem_filter.mpr ⟨(x_lvl_mem ad L 0 _).mpr ⟨j, w, hj, by rw [Nat.zero_add]⟩, ?_⟩))
    by_cases h1 : j + 1 = i
    · subst h1
      have h2 : x_two (some w) = false := by rw [← hj]; exact hp
      simp [x_cv_cat, x_two_cat h2]
    · simp [hji, h1]
theorem x_L.st2 {ad : Nat → Nat} {ls' : Array Slot} {nL i : Nat} {L : List (Option Value)} {v : Value} (hp : x_plg L i = false)
    (h : lv_has ls' nL ((i, x_cv ad v) :: (x_lvl ad 0 L).filter (fun q => !(q.1 == i) && (!(q.1 == i + 1) && !(q.1 + 1 == i && q.2.category == 2))))) : x_L ad ls' nL (x_set (x_set L i (some v)) (i + 1) none) := by
  refine ⟨h.1, h.2.1, fun j w hj => ?_⟩
  by_cases hj1 : j = i + 1
  · subst hj1
    have := x_get_set_eq _ (i + 1) none w hj
    cases this
  · rw [x_get_set_ne _ (i + 1) j _ hj1] at hj
    by_cases hji : j = i
    · subst hji
      have := x_get_set_eq L j (some v) w hj
      cases this
      exact h.2.2 _ List.mem_cons_self
    · rw [x_get_set_ne L i j _ hji] at hj
      refine h.2.2 (j, x_cv ad w) (List.mem_cons_of_mem _ (List.mem_filter.mpr ⟨(x_lvl_mem ad L 0 _).mpr ⟨j, w, hj, by rw [Nat.zero_add]⟩, ?_⟩))
      by_cases h1 : j + 1 = i
      · subst h1
        have h2 : x_two (some w) = false := by rw [← hj]; exact hp
        simp [x_cv_cat, x_two_cat h2, hj1]
      · simp [hji, h1, hj1]
/-! context -/
def x_AA (ad : Nat → Nat) : Nat → Prop := fun q => ∃ k, k < x_K ∧ ad k = q
def x_A (o : xO) (ad : Nat → Nat) (s : State) : Nat → Prop := match o with
  | .inl _ => x_AA ad
  | .inr _ => fun q => s.heap.size ≤ q
def x_Rm (o : xO) : Room := match o with
  | .inl d => { frames := d, cells := 0, slots := 0, locals := 36 * d }
  | .inr _ => room_1
def x_Cc (o : xO) : Nat := match o with
  | .inl _ => 0
  | .inr _ => 600000
def x_Cs (o : xO) : Nat := match o with
  | .inl _ => 0
  | .inr _ => 7302250
def x_Inj (ad : Nat → Nat) : Prop := ∀ i j, i < x_K → j < x_K → ad i = ad j → i = j
def x_Cst (ad : Nat → Nat) (A : Nat → Prop) (U : State) : Prop := ∀ (j : Nat) (l : List Int32), x_nth x_cst j = some l → va_T .int (ad (100 + j)) l.length (fun i => .int (l.getD i 0)) A U U.heap ∧ ∀ nm, x_nth x_csn j = some nm → va_Z "LaneLock" nm "[I" (.ref (ad (100 + j))) A U U.heap
def x_Scr (o : xO) (ad : Nat → Nat) (s : State) : Prop := match o with
  | .inl _ => True
  | .inr (n, xs) => va_X (ad 99) n xs s s.heap ∧ ad 99 < s.heap.size
def x_Cx (o : xO) (M : xM) (p : Program) (s : State) (m : MethodId) (args : Array Value) (meth : Method) (c : Code) (ad : Nat → Nat) (ca : Nat → ClassId) (D : va_G) : Prop :=
  p.tables.exec = Jvm.exec ∧ c.code = xM_code M ∧ c.maxLocals = xM_maxL M ∧ meth.sig.returnType = xM_ret M ∧ meth.locks = false ∧ s.vm.findClass (xM_own M) = some m.cls ∧ (∀ w ∈ x_tbl, w.before args s = true) ∧ va_K D vwCl (x_tys ca) s ∧ x_Cst ad (x_A o ad s) s ∧ x_Inj ad ∧ (∀ k, k < x_K → x_A o ad s (ad k)) ∧ x_Scr o ad s
def x_fok (own : String) (q : Nat × Nat × Nat × Nat) : Prop := ∃ (C : String) (T : u_T) (N : Nat), vwCl[q.2.1]? = some (C, T, N) ∧ q.2.2.1 < N ∧ Cond.fieldLink own q.1 (T q.2.2.1).1 (T q.2.2.1).2.1 (T q.2.2.1).2.2.1 ∈ x_tbl ∧ (q.2.2.2 = 0 → (T q.2.2.1).2.2.1 = "I" ∧ (T q.2.2.1).2.2.2 = false) ∧ (q.2.2.2 = 1 → (T q.2.2.1).2.2.1 = "Z" ∧ (T q.2.2.1).2.2.2 = false)
def x_sok (own : String) (q : Nat × Nat) : Prop := ∃ nm, x_nth x_csn q.2 = some nm ∧ (∃ l, x_nth x_cst q.2 = some l) ∧ Cond.fieldLink own q.1 "LaneLock" nm "[I" ∈ x_tbl
def x_kok (own : String) (q : Nat × Value) : Prop := match q.2 with
  | .int v => Cond.constant own q.1 v ∈ x_tbl
  | .long v => Cond.constantLong own q.1 v ∈ x_tbl
  | _ => False
def x_nok (own : String) (q : Nat × Nat) : Prop := match q.2 with
  | 0 => Cond.methodLink own q.1 Lib.Math.max.name ∈ x_tbl
  | 1 => Cond.methodLink own q.1 Lib.Math.min.name ∈ x_tbl
  | _ => Cond.methodLink own q.1 arraycopyName ∈ x_tbl
def x_lkok (own : String) (X : xLK) : Prop := (∀ q ∈ X.1, x_fok own q) ∧ (∀ q ∈ X.2.1, x_sok own q) ∧ (∀ q ∈ X.2.2.1, x_kok own q) ∧ ∀ q ∈ X.2.2.2, x_nok own q
def x_ok (M : xM) : Prop := x_lkok (xM_own M) (xM_lk M) ∧ ∀ q ∈ xM_tb M, decode (xM_code M) q.1 = .ok q.2
theorem x_inCl {k : Nat} {q : vw_C} (h : vwCl[k]? = some q) : ∀ w ∈ u_ws q.1 q.2.1 q.2.2, w ∈ x_tbl := by
  match k, h with
  | 0, h => cases h; exact x_in0
  | 1, h => cases h; exact x_in1
  | 2, h => cases h; exact x_in2
  | 3, h => cases h; exact x_in3
  | 4, h => cases h; exact x_in4
  | 5, h => cases h; exact x_in5
  | 6, h => cases h; exact x_in6
  | k + 7, h => simp [vwCl] at h
theorem x_tyCl {k : Nat} {q : vw_C} (h : vwCl[k]? = some q) : ∃ ty0 : Nat → FieldType, ∀ k, k < q.2.2 → parseFieldDescriptor (q.2.1 k).2.2.1 = some (ty0 k) := by
  match k, h with
  | 0, h => cases h; exact ⟨_, tyX0_ok⟩
  | 1, h => cases h; exact ⟨_, tyX1_ok⟩
  | 2, h => cases h; exact ⟨_, tyX2_ok⟩
  | 3, h => cases h; exact ⟨_, tyX3_ok⟩
  | 4, h => cases h; exact ⟨_, tyX4_ok⟩
  | 5, h => cases h; exact ⟨_, tyX5_ok⟩
  | 6, h => cases h; exact ⟨_, tyX6_ok⟩
  | k + 7, h => simp [vwCl] at h
theorem x_nmCl {k : Nat} {q : vw_C} (h : vwCl[k]? = some q) : ∀ a, a < q.2.2 → ∀ b, b < q.2.2 → a ≠ b → (q.2.1 a).2.1 ≠ (q.2.1 b).2.1 := by
  match k, h with
  | 0, h => cases h; exact nmX0
  | 1, h => cases h; exact nmX1
  | 2, h => cases h; exact nmX2
  | 3, h => cases h; exact nmX3
  | 4, h => cases h; exact nmX4
  | 5, h => cases h; exact nmX5
  | 6, h => cases h; exact nmX6
  | k + 7, h => simp [vwCl] at h
set_option maxRecDepth 20000 in
theorem x_w_max : Cond.static Lib.Math.max.name ∈ x_tbl ∧ Cond.initialized "java/lang/Math" ∈ x_tbl ∧ Cond.code Lib.Math.max.name Lib.Math.max.code 2 (some .int) ∈ x_tbl := by decide +kernel
set_option maxRecDepth 20000 in
theorem x_w_min : Cond.static Lib.Math.min.name ∈ x_tbl ∧ Cond.initialized "java/lang/Math" ∈ x_tbl ∧ Cond.code Lib.Math.min.name Lib.Math.min.code 2 (some .int) ∈ x_tbl := by decide +kernel
set_option maxRecDepth 20000 in
theorem x_w_cpy : Cond.native arraycopyName ∈ x_tbl ∧ Cond.static arraycopyName ∈ x_tbl ∧ Cond.initialized "java/lang/System" ∈ x_tbl := by decide +kernel
theorem x_w_nfw : nativeFrameWords "java/lang/System" "arraycopy" 5 + 19 ≤ 36 := by decide +kernel
theorem x_wD {ca : Nat → ClassId} {ad : Nat → Nat} {σ : xSg} {A : Nat → Prop} (hi : x_Inj ad) (hA : ∀ k, k < x_K → A (ad k)) : va_D A (x_wl ca ad σ) := by
  have at' : ∀ {i : Nat} {q : Nat × va_E}, (x_wl ca ad σ)[i]? = some q → i < x_K ∧ q.1 = ad i := by
    intro i q h
    have hl : i < x_K := by
      have := (List.getElem?_eq_some_iff.mp h).1
      rwa [x_wl_len] at this
    rw [x_wl_at hl] at h
    cases h
    exact ⟨hl, rfl⟩
  refine ⟨fun i j x y hx hy hxy => ?_, fun k q hq => ?_⟩
  · obtain ⟨a1, a2⟩ := at' hx
    obtain ⟨b1, b2⟩ := at' hy
    exact hi i j a1 b1 (by rw [← a2, ← b2]; exact hxy)
  · obtain ⟨a1, a2⟩ := at' hq
    rw [a2]
    exact hA k a1
