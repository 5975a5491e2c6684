/-! insertion by keys, and rows that hold a list while one is put in -/
def s_ins (k : Nat → Int) (x : Nat) : List Nat → List Nat
  | [] => [x]
  | y :: L => if k x < k y then x :: y :: L else y :: s_ins k x L
def s_srt (k : Nat → Int) (L : List Nat) : List Nat := L.foldl (fun acc x => s_ins k x acc) []
abbrev Sd (k : Nat → Int) (L : List Nat) : Prop := L.Pairwise (fun y z => k y ≤ k z)
theorem s_ins_mem {k : Nat → Int} {x y : Nat} : ∀ {L : List Nat}, y ∈ s_ins k x L ↔ y = x ∨ y ∈ L
  | [] => by simp [s_ins]
  | z :: L => by
    unfold s_ins
    split
    · simp
    · simp only [List.mem_cons, s_ins_mem (L := L)]
      constructor
      · rintro (h | h | h)
        · exact Or.inr (Or.inl h)
        · exact Or.inl h
        · exact Or.inr (Or.inr h)
      · rintro (h | h | h)
        · exact Or.inr (Or.inl h)
        · exact Or.inl h
        · exact Or.inr (Or.inr h)
theorem s_ins_len {k : Nat → Int} {x : Nat} : ∀ {L : List Nat}, (s_ins k x L).length = L.length + 1
  | [] => rfl
  | z :: L => by
    unfold s_ins
    split
    · rfl
    · simp [s_ins_len (L := L)]
theorem s_ins_nodup {k : Nat → Int} {x : Nat} : ∀ {L : List Nat}, x ∉ L → L.Nodup → (s_ins k x L).Nodup
  | [], _, _ => by simp [s_ins]
  | z :: L, h, hn => by
    unfold s_ins
    split
    · exact List.nodup_cons.mpr ⟨h, hn⟩
    · simp only [List.mem_cons, not_or] at h
      rw [List.nodup_cons] at hn ⊢
      refine ⟨fun q => ?_, s_ins_nodup h.2 hn.2⟩
      rcases s_ins_mem.mp q with q | q
      · exact h.1 q.symm
      · exact hn.1 q
theorem s_ins_sd {k : Nat → Int} {x : Nat} : ∀ {L : List Nat}, Sd k L → Sd k (s_ins k x L)
  | [], _ => by simp [s_ins, Sd]
  | z :: L, h => by
    unfold s_ins
    split
    next hlt =>
      refine List.pairwise_cons.mpr ⟨fun y hy => ?_, h⟩
      rcases List.mem_cons.mp hy with rfl | hy
      · omega
      · have := (List.pairwise_cons.mp h).1 y hy
        omega
    next hlt =>
      obtain ⟨h1, h2⟩ := List.pairwise_cons.mp h
      refine List.pairwise_cons.mpr ⟨fun y hy => ?_, s_ins_sd h2⟩
      rcases s_ins_mem.mp hy with rfl | hy
      · omega
      · exact h1 y hy
theorem s_ins_split {k : Nat → Int} {x : Nat} : ∀ {L : List Nat} {at_ : Nat}, (∀ y ∈ L.drop at_, k x < k y) → (∀ y ∈ L.take at_, k y ≤ k x) → s_ins k x L = L.take at_ ++ x :: L.drop at_
  | [], _, _, _ => by simp [s_ins]
  | z :: L, 0, h1, _ => by
    unfold s_ins
    rw [if_pos (h1 z (by simp))]
    rfl
  | z :: L, a + 1, h1, h2 => by
    unfold s_ins
    have := h2 z (by simp)
    rw [if_neg (by omega), s_ins_split (L := L) (at_ := a) (fun y hy => h1 y (by simpa using hy)) (fun y hy => h2 y (by simp [hy]))]
    rfl
theorem s_ins_all {k : Nat → Int} {x : Nat} {L : List Nat} (h : ∀ y ∈ L, k x < k y) : s_ins k x L = x :: L := by
  have := s_ins_split (k := k) (x := x) (L := L) (at_ := 0) (by simpa using h) (by simp)
  simpa using this
theorem s_ins_fl {k : Nat → Int} {x : Nat} {p : Nat → Bool} : ∀ {L : List Nat}, Sd k L → (s_ins k x L).filter p = if p x = true then s_ins k x (L.filter p) else L.filter p
  | [], _ => by
    unfold s_ins
    by_cases h : p x = true
    · rw [if_pos h]; simp [h, s_ins]
    · rw [if_neg h]; simp [h]
  | z :: L, h => by
    obtain ⟨h1, h2⟩ := List.pairwise_cons.mp h
    conv => lhs; unfold s_ins
    by_cases hlt : k x < k z
    · rw [if_pos hlt]
      by_cases hp : p x = true
      · rw [if_pos hp, List.filter_cons_of_pos hp, s_ins_all]
        intro y hy
        rcases List.mem_cons.mp (List.mem_filter.mp hy).1 with rfl | hy
        · exact hlt
        · have := h1 y hy; omega
      · rw [if_neg hp, List.filter_cons_of_neg hp]
    · rw [if_neg hlt]
      by_cases hz : p z = true
      · rw [List.filter_cons_of_pos hz, List.filter_cons_of_pos hz, s_ins_fl h2]
        by_cases hp : p x = true
        · rw [if_pos hp, if_pos hp]
          conv => rhs; unfold s_ins
          rw [if_neg hlt]
        · rw [if_neg hp, if_neg hp]
      · rw [List.filter_cons_of_neg hz, List.filter_cons_of_neg hz, s_ins_fl h2]
theorem s_fold_fl {k : Nat → Int} {p : Nat → Bool} : ∀ {L acc : List Nat}, Sd k acc → (L.foldl (fun acc x => s_ins k x acc) acc).filter p = (L.filter p).foldl (fun acc x => s_ins k x acc) (acc.filter p)
  | [], _, _ => rfl
  | x :: L, acc, h => by
    simp only [List.foldl_cons]
    rw [s_fold_fl (L := L) (s_ins_sd h), s_ins_fl h]
    by_cases hp : p x = true
    · rw [if_pos hp, List.filter_cons_of_pos hp, List.foldl_cons]
    · rw [if_neg hp, List.filter_cons_of_neg hp]
theorem s_srt_fl {k : Nat → Int} {p : Nat → Bool} {L : List Nat} : (s_srt k L).filter p = s_srt k (L.filter p) := s_fold_fl (by simp [Sd])
theorem s_srt_snoc {k : Nat → Int} {L : List Nat} {x : Nat} : s_srt k (L ++ [x]) = s_ins k x (s_srt k L) := by simp [s_srt, List.foldl_append]
theorem s_fold_sd {k : Nat → Int} : ∀ {L acc : List Nat}, Sd k acc → Sd k (L.foldl (fun acc x => s_ins k x acc) acc)
  | [], _, h => h
  | x :: L, acc, h => s_fold_sd (L := L) (s_ins_sd h)
theorem s_srt_sd {k : Nat → Int} {L : List Nat} : Sd k (s_srt k L) := s_fold_sd (by simp [Sd])
theorem s_fold_mem {k : Nat → Int} {y : Nat} : ∀ {L acc : List Nat}, y ∈ L.foldl (fun acc x => s_ins k x acc) acc ↔ y ∈ L ∨ y ∈ acc
  | [], _ => by simp
  | x :: L, acc => by
    simp only [List.foldl_cons]
    rw [s_fold_mem (L := L), s_ins_mem, List.mem_cons]
    constructor
    · rintro (h | h | h)
      · exact Or.inl (Or.inr h)
      · exact Or.inl (Or.inl h)
      · exact Or.inr h
    · rintro ((h | h) | h)
      · exact Or.inr (Or.inl h)
      · exact Or.inl h
      · exact Or.inr (Or.inr h)
theorem s_srt_mem {k : Nat → Int} {y : Nat} {L : List Nat} : y ∈ s_srt k L ↔ y ∈ L := by
  unfold s_srt
  rw [s_fold_mem]
  simp
theorem s_fold_len {k : Nat → Int} : ∀ {L acc : List Nat}, (L.foldl (fun acc x => s_ins k x acc) acc).length = L.length + acc.length
  | [], _ => by simp
  | x :: L, acc => by
    simp only [List.foldl_cons, List.length_cons]
    rw [s_fold_len (L := L), s_ins_len]
    omega
theorem s_srt_len {k : Nat → Int} {L : List Nat} : (s_srt k L).length = L.length := by
  unfold s_srt
  rw [s_fold_len]
  simp
theorem s_fold_nodup {k : Nat → Int} : ∀ {L acc : List Nat}, L.Nodup → acc.Nodup → (∀ x, x ∈ L → x ∈ acc → False) → (L.foldl (fun acc x => s_ins k x acc) acc).Nodup
  | [], _, _, h, _ => h
  | x :: L, acc, h1, h2, h3 => by
    obtain ⟨h4, h5⟩ := List.nodup_cons.mp h1
    refine s_fold_nodup (L := L) h5 (s_ins_nodup (fun q => h3 x (by simp) q) h2) (fun y hy hz => ?_)
    rcases s_ins_mem.mp hz with rfl | hz
    · exact h4 hy
    · exact h3 y (List.mem_cons_of_mem _ hy) hz
theorem s_srt_nodup {k : Nat → Int} {L : List Nat} (h : L.Nodup) : (s_srt k L).Nodup := s_fold_nodup h (by simp) (fun _ _ q => by simp at q)
theorem Sd_take {k : Nat → Int} {L : List Nat} {i x : Nat} (h : Sd k L) (hx : L[i]? = some x) : ∀ y ∈ L.take (i + 1), k y ≤ k x := by
  intro y hy
  obtain ⟨j, hj⟩ := List.getElem?_of_mem hy
  have hjl := (List.getElem?_eq_some_iff.mp hj).1
  rw [List.length_take] at hjl
  rw [List.getElem?_take_of_lt (by omega)] at hj
  obtain ⟨l1, e1⟩ := List.getElem?_eq_some_iff.mp hx
  obtain ⟨l2, e2⟩ := List.getElem?_eq_some_iff.mp hj
  rcases Nat.lt_or_ge j i with q | q
  · have := List.pairwise_iff_getElem.mp h j i l2 l1 q
    rw [e1, e2] at this
    exact this
  · have : j = i := by omega
    subst this
    rw [← e2, e1]
    exact Int.le_refl _
/-- the row f holds, from b on, the list P with a hole at the place at_ -/
def insR (f : Nat → Int32) (b : Nat) (P : List Nat) (at_ : Nat) : Prop := (∀ (j x : Nat), P[j]? = some x → j < at_ → f (b + j) = nI x) ∧ ∀ (j x : Nat), P[j]? = some x → at_ ≤ j → f (b + j + 1) = nI x
abbrev rowL (f : Nat → Int32) (b : Nat) (P : List Nat) : Prop := ∀ (j x : Nat), P[j]? = some x → f (b + j) = nI x
theorem insR_ini {f : Nat → Int32} {b : Nat} {P : List Nat} (h : rowL f b P) : insR f b P P.length :=
  ⟨fun j x hj _ => h j x hj, fun j x hj hl => by have := (List.getElem?_eq_some_iff.mp hj).1; omega⟩
theorem insR_stp {f : Nat → Int32} {b : Nat} {P : List Nat} {i : Nat} (h : insR f b P (i + 1)) : insR (upd f (b + (i + 1)) (f (b + i))) b P i := by
  refine ⟨fun j x hj hl => ?_, fun j x hj hl => ?_⟩
  · rw [upd_ne (by omega)]
    exact h.1 j x hj (by omega)
  · by_cases hji : j = i
    · subst hji
      rw [show b + j + 1 = b + (j + 1) by omega, upd_eq]
      exact h.1 j x hj (by omega)
    · rw [upd_ne (by omega)]
      exact h.2 j x hj (by omega)
theorem insR_end {f : Nat → Int32} {b : Nat} {P : List Nat} {i x : Nat} (h : insR f b P i) (hi : i ≤ P.length) : rowL (upd f (b + i) (nI x)) b (P.take i ++ x :: P.drop i) := by
  intro j y hj
  have hlt : (P.take i).length = i := by rw [List.length_take]; omega
  rcases Nat.lt_trichotomy j i with q | q | q
  · rw [List.getElem?_append_left (by omega), List.getElem?_take_of_lt q] at hj
    rw [upd_ne (by omega)]
    exact h.1 j y hj q
  · subst q
    rw [List.getElem?_append_right (by omega), hlt, Nat.sub_self] at hj
    simp only [List.getElem?_cons_zero, Option.some.injEq] at hj
    rw [upd_eq, hj]
  · rw [List.getElem?_append_right (by omega), hlt, show j - i = (j - i - 1) + 1 by omega, List.getElem?_cons_succ, List.getElem?_drop] at hj
    rw [upd_ne (by omega)]
    have := h.2 (j - 1) y (by rw [← hj]; congr 1; omega) (by omega)
    rw [← this]
    congr 1
    omega
theorem drop_gt {k : Nat → Int} {P : List Nat} {i x y : Nat} (h : ∀ z ∈ P.drop (i + 1), k x < k z) (hy : P[i]? = some y) (hlt : k x < k y) : ∀ z ∈ P.drop i, k x < k z := by
  intro z hz
  obtain ⟨hl, he⟩ := List.getElem?_eq_some_iff.mp hy
  rw [List.drop_eq_getElem_cons hl, he] at hz
  rcases List.mem_cons.mp hz with rfl | hz
  · exact hlt
  · exact h z hz
