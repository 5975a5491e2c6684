/-! who stands where in the line -/
def lK (f : Nat → Int32) : Nat → Int := fun x => -(f x).toInt
abbrev lR (k : Nat → Int) (y z : Nat) : Prop := k y < k z ∨ (k y = k z ∧ y < z)
theorem ins_lR {k : Nat → Int} {x : Nat} : ∀ {L : List Nat}, L.Pairwise (lR k) → (∀ y ∈ L, y < x) → (s_ins k x L).Pairwise (lR k)
  | [], _, _ => by simp [s_ins]
  | z :: L, h, hx => by
    obtain ⟨h1, h2⟩ := List.pairwise_cons.mp h
    have hzx := hx z List.mem_cons_self
    unfold s_ins
    split
    next q =>
      refine List.pairwise_cons.mpr ⟨fun y hy => ?_, h⟩
      rcases List.mem_cons.mp hy with rfl | hy
      · exact Or.inl q
      · rcases h1 y hy with w | w
        · exact Or.inl (by omega)
        · exact Or.inl (by omega)
    next q =>
      refine List.pairwise_cons.mpr ⟨fun y hy => ?_, ins_lR h2 (fun y hy => hx y (List.mem_cons_of_mem _ hy))⟩
      rcases s_ins_mem.mp hy with rfl | hy
      · rcases Int.lt_or_eq_of_le (Int.not_lt.mp q) with w | w
        · exact Or.inl w
        · exact Or.inr ⟨w, hzx⟩
      · exact h1 y hy
theorem fold_lR {k : Nat → Int} : ∀ {L acc : List Nat}, L.Pairwise (fun y z => y < z) → acc.Pairwise (lR k) → (∀ y ∈ acc, ∀ z ∈ L, y < z) → (L.foldl (fun acc x => s_ins k x acc) acc).Pairwise (lR k)
  | [], _, _, h, _ => h
  | x :: L, acc, h1, h2, h3 => by
    obtain ⟨h4, h5⟩ := List.pairwise_cons.mp h1
    refine fold_lR (L := L) h5 (ins_lR h2 (fun y hy => h3 y hy x List.mem_cons_self)) (fun y hy z hz => ?_)
    rcases s_ins_mem.mp hy with rfl | hy
    · exact h4 z hz
    · exact h3 y hy z (List.mem_cons_of_mem _ hz)
theorem srt_lR {k : Nat → Int} {L : List Nat} (h : L.Pairwise (fun y z => y < z)) : (s_srt k L).Pairwise (lR k) := fold_lR h (by simp) (fun y hy => by simp at hy)
/-- of a strictly ordered list, those ahead of the i-th are i -/
theorem lR_pos {k : Nat → Int} : ∀ {L : List Nat} {i x : Nat}, L.Pairwise (lR k) → L[i]? = some x → (L.filter (fun y => decide (lR k y x))).length = i
  | [], i, x, _, h => by simp at h
  | z :: L, 0, x, h, hx => by
    simp only [List.getElem?_cons_zero, Option.some.injEq] at hx
    subst hx
    obtain ⟨h1, h2⟩ := List.pairwise_cons.mp h
    rw [List.filter_cons_of_neg (by simp), List.filter_eq_nil_iff.mpr]
    · rfl
    · intro y hy
      rcases h1 y hy with w | w
      · simp; omega
      · simp; omega
  | z :: L, i + 1, x, h, hx => by
    obtain ⟨h1, h2⟩ := List.pairwise_cons.mp h
    rw [List.getElem?_cons_succ] at hx
    rw [List.filter_cons_of_pos (p := fun y => decide (lR k y x)) (show (fun y => decide (lR k y x)) z = true from decide_eq_true (h1 x (List.mem_of_getElem? hx))), List.length_cons, lR_pos h2 hx]
theorem n_cnt_fl (f : Nat → Bool) : ∀ k, n_cnt f k = ((List.range k).filter f).length
  | 0 => rfl
  | k + 1 => by
    rw [n_cnt, n_cnt_fl f k, List.range_succ, List.filter_append, List.length_append]
    by_cases h : f k = true
    · rw [if_pos h, List.filter_cons_of_pos h]; rfl
    · rw [if_neg h, List.filter_cons_of_neg h]; rfl
/-- the i-th of the line, by the rule of how many stand ahead -/
theorem inl_of {f : Nat → Int32} {i : Int32} {x : Nat} : ∀ (m k : Nat), k ≤ x → x < k + m → ¬ f x = -1 → nI (n_cnt (s_ahd f x) 10) = i → (∀ y, y < 10 → ¬ f y = -1 → nI (n_cnt (s_ahd f y) 10) = i → y = x) → x < 10 → s_inl f i m k = nI x
  | 0, k, h1, h2, _, _, _, _ => by omega
  | m + 1, k, h1, h2, h3, h4, h5, h6 => by
    unfold s_inl
    by_cases e : k = x
    · subst e
      rw [if_pos ⟨h3, h4⟩]
    · rw [if_neg (fun q => e (h5 k (by omega) q.1 q.2))]
      exact inl_of m (k + 1) (by omega) (by omega) h3 h4 h5 h6
theorem inl_no {f : Nat → Int32} {i : Int32} : ∀ (m k : Nat), k + m ≤ 10 → (∀ y, y < 10 → ¬ f y = -1 → ¬ nI (n_cnt (s_ahd f y) 10) = i) → s_inl f i m k = -1
  | 0, _, _, _ => rfl
  | m + 1, k, h1, h2 => by
    unfold s_inl
    rw [if_neg (fun q => h2 k (by omega) q.1 q.2)]
    exact inl_no m (k + 1) (by omega) h2
/-- waits: not below 0 for those that go in -/
def wOk (f : Nat → Int32) (n : Nat) (p : Nat → Bool) : Prop := n ≤ 10 ∧ (∀ x, x < 10 → p x = true → x < n ∧ ¬ f x < 0) ∧ ∀ x, x < 10 → p x = false → f x = -1
theorem w_m1 {f : Nat → Int32} {n : Nat} {p : Nat → Bool} (h : wOk f n p) {x : Nat} (hx : x < 10) : ¬ f x = -1 ↔ p x = true := by
  cases hp : p x with
  | false => simp [h.2.2 x hx hp]
  | true =>
    simp only [iff_true]
    intro q
    exact (h.2.1 x hx hp).2 (by rw [q]; decide)
theorem w_cnt {f : Nat → Int32} {n : Nat} {p : Nat → Bool} (h : wOk f n p) {i x : Nat} (hx : (s_srt (lK f) ((List.range n).filter p))[i]? = some x) : n_cnt (s_ahd f x) 10 = i ∧ x < 10 ∧ p x = true := by
  have hm := s_srt_mem.mp (List.mem_of_getElem? hx)
  obtain ⟨hm1, hm2⟩ := List.mem_filter.mp hm
  have hxn := List.mem_range.mp hm1
  have hn := h.1
  have hlr := srt_lR (k := lK f) (L := (List.range n).filter p) (List.pairwise_lt_range.filter _)
  have hpos := lR_pos hlr hx
  refine ⟨?_, by omega, hm2⟩
  rw [n_cnt_fl]
  have e1 : (List.range 10).filter (s_ahd f x) = ((List.range n).filter p).filter (s_ahd f x) := by
    rw [List.filter_filter]
    have e2 : List.range 10 = List.range n ++ List.range' n (10 - n) := by
      rw [List.range_eq_range', List.range_eq_range', show List.range' n (10 - n) = List.range' (0 + 1 * n) (10 - n) by simp, List.range'_append]
      congr 1
      omega
    have hx0 := (h.2.1 x (by omega) hm2).2
    have key : ∀ y, y < 10 → s_ahd f x y = true → p y = true := by
      intro y hy hs
      refine (w_m1 h hy).mp (fun q => ?_)
      rcases of_decide_eq_true hs with w | w
      · rw [q] at w
        exact hx0 (by rw [← w.1]; decide)
      · rw [q] at w
        exact hx0 (Int32.lt_trans w (by decide))
    have e4 : (List.range' n (10 - n)).filter (s_ahd f x) = [] := List.filter_eq_nil_iff.mpr (fun y hy hs => by
      have hy2 := List.mem_range'_1.mp hy
      have := (h.2.1 y (by omega) (key y (by omega) hs)).1
      omega)
    rw [e2, List.filter_append, e4, List.append_nil]
    refine List.filter_congr (fun y hy => ?_)
    have hyn := List.mem_range.mp hy
    cases hs : s_ahd f x y with
    | false => rfl
    | true => rw [key y (by omega) hs]; rfl
  rw [e1]
  have e3 : (((List.range n).filter p).filter (s_ahd f x)).length = (s_srt (lK f) (((List.range n).filter p).filter (s_ahd f x))).length := s_srt_len.symm
  rw [e3, ← s_srt_fl, ← hpos]
  congr 1
  refine List.filter_congr (fun y _ => ?_)
  have hiff : ((f y = f x ∧ y < x) ∨ f x < f y) ↔ lR (lK f) y x := by
    show _ ↔ (-(f y).toInt < -(f x).toInt ∨ (-(f y).toInt = -(f x).toInt ∧ y < x))
    rw [Int32.lt_iff_toInt_lt, ← Int32.toInt_inj]
    omega
  exact decide_eq_decide.mpr hiff
theorem w_line {f : Nat → Int32} {n : Nat} {p : Nat → Bool} (h : wOk f n p) {i : Nat} (hi : i < 2 ^ 31) : s_inl f (nI i) 10 0 = match (s_srt (lK f) ((List.range n).filter p))[i]? with
    | none => -1
    | some x => nI x := by
  have hn := h.1
  have cle : ∀ y, n_cnt (s_ahd f y) 10 ≤ 10 := fun y => n_cntle _ _
  have pos : ∀ y, y < 10 → p y = true → ∃ k, (s_srt (lK f) ((List.range n).filter p))[k]? = some y := fun y hy hp => by
    have := (h.2.1 y hy hp).1
    exact List.getElem?_of_mem (s_srt_mem.mpr (List.mem_filter.mpr ⟨List.mem_range.mpr this, hp⟩))
  cases hx : (s_srt (lK f) ((List.range n).filter p))[i]? with
  | none =>
    refine inl_no 10 0 (by omega) (fun y hy h1 h2 => ?_)
    obtain ⟨k, hk⟩ := pos y hy ((w_m1 h hy).mp h1)
    obtain ⟨c1, -, -⟩ := w_cnt h hk
    have := (nI_eq (by have := cle y; omega) hi).mp h2
    rw [c1] at this
    subst this
    rw [hk] at hx
    cases hx
  | some x =>
    obtain ⟨c1, c2, c3⟩ := w_cnt h hx
    refine inl_of 10 0 (Nat.zero_le _) (by omega) ((w_m1 h c2).mpr c3) (by rw [c1]) (fun y hy h1 h2 => ?_) c2
    obtain ⟨k, hk⟩ := pos y hy ((w_m1 h hy).mp h1)
    obtain ⟨d1, -, -⟩ := w_cnt h hk
    have := (nI_eq (by have := cle y; omega) hi).mp h2
    rw [d1] at this
    subst this
    rw [hk] at hx
    exact Option.some.inj hx
theorem ar_bg {a : sAt} {tk : sTk} {A B : List Nat} {n : Nat} (h : laOk a n A B) : bgOk a n (s_ar a tk A B 21 0 (fun _ => none, 0, none)).1 := by
  rw [← mr_all h]
  exact mr_bg h 2000 0 0 _ rfl (fun x t hx => by cases hx)
theorem wt_ok {a : sAt} {n : Nat} {bg : Nat → Option Nat} (ha : aOk a n) (h : bgOk a n bg) : wOk (fun j => a_wt (bg j) (aCo a j)) n (fun j => (bg j).isSome) := by
  refine ⟨ha.1, fun x hx hp => ?_, fun x hx hp => ?_⟩
  · cases hb : bg x with
    | none => dsimp only at hp; rw [hb] at hp; cases hp
    | some t =>
      obtain ⟨h1, h2, h3⟩ := h x t hb
      obtain ⟨c, hc, -, hc9⟩ := (ha.2.1 x h1).2.2.2.2.1
      rw [hc] at h3
      have := (nI_leI (by omega) (by omega)).mp h3
      refine ⟨h1, ?_⟩
      dsimp only [a_wt]
      rw [hb, hc]
      show ¬ nI t - nI c < 0
      rw [i_sub this]
      exact nI_pos (by omega)
  · cases hb : bg x with
    | none => dsimp only; rw [hb]; rfl
    | some t => dsimp only at hp; rw [hb] at hp; cases hp
