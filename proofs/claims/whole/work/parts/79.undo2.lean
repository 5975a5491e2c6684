/-! the image, what left, what was undone, in one value -/
section UN
variable {τ σ' : xSg} {S : zS} {r : Option Value}
def zImg (S : zS) : Int32 × zS := (nI S.1.1, (S.1, some S.1, S.2.2))
theorem so_image (ok : sOk S) : sOk (zImg S).2 := ⟨ok.1, fun P hP => by cases hP; exact ok.1, ok.2.2⟩
theorem kc_image (ok : sOk S) (h : CH0 τ S) (q : imQ τ r σ') : zC τ (zImg S) r σ' := by
  obtain ⟨σ1, ⟨_, k1, k2, k3, k4, k5, k6, k7⟩, q2, q3⟩ := q
  have o : ∀ c, c ≠ 0 → σ' c = σ1 c := fun c hc => by rw [q3, x_up_ne hc]
  have hl : cL S.1 ≤ 40 := ok.1.2.2.1.2.2.2.2.2
  obtain ⟨⟨a1, a2, a3, a4, a5, a6, a7, a8, a9⟩, b2, b3, b4, b5, b6⟩ := h
  have e : ∀ c, (c < 13 ∨ 24 < c) → c ≠ 0 → σ' c = τ c := fun c hc h0 => by rw [o c h0, k1 c (by omega)]
  have e0 : ∀ i, i ≠ 2 → σ' 0 i = τ 0 i := fun i hi => by rw [q3, x_up_eq, upd_ne hi, k1 0 (by omega)]
  refine ⟨by rw [q2, k2 0 (by omega), a1]; rfl, ⟨?_, ?_, fun P hP => ?_, (e0 4 (by decide)).trans b4, fun k d hd => by rw [e 25 (by omega) (by omega)]; exact b5 k d hd, fun i hi => by rw [e (49 + 2 * i) (by omega) (by omega), e (50 + 2 * i) (by omega) (by omega)]; exact b6 i hi⟩, fun c hc => e c (by omega) (by omega)⟩
  · show CK1 σ' S.1
    unfold CK1
    rw [e 1 (by omega) (by omega), e 2 (by omega) (by omega), e 3 (by omega) (by omega), e 4 (by omega) (by omega), e 5 (by omega) (by omega), e 6 (by omega) (by omega), e 7 (by omega) (by omega), e 8 (by omega) (by omega), e 9 (by omega) (by omega), e 10 (by omega) (by omega), e 11 (by omega) (by omega), e 12 (by omega) (by omega)]
    exact ⟨a1, a2, a3, a4, a5, a6, a7, a8, a9⟩
  · rw [q3, x_up_eq, upd_eq]; rfl
  · cases hP
    unfold CK13
    rw [o 13 (by omega), o 14 (by omega), o 15 (by omega), o 16 (by omega), o 17 (by omega), o 18 (by omega), o 19 (by omega), o 20 (by omega), o 21 (by omega), o 22 (by omega), o 23 (by omega), o 24 (by omega)]
    refine ⟨(k2 0 (by omega)).trans a1, (k2 1 (by omega)).trans a2, (k2 2 (by omega)).trans a3, (k2 13 (by omega)).trans a4, ⟨fun i hi => ?_, fun i hi => (k4 i hi).trans (a5.2 i hi)⟩, fun i hi => (k3 7 i (by omega) (by omega) hi).trans (a6 i hi), fun r q hr hq => by rw [show σ1 22 r = τ 10 r from k5 r hr]; exact a7 r q hr hq, fun i hi => (k6 i hi).trans (a8 i hi), fun i hi => (k7 i (by omega)).trans (a9 i hi)⟩
    obtain ⟨c1, c2, c3, c4, c5, c6⟩ := a5.1 i hi
    exact ⟨(k3 1 i (by omega) (by omega) hi).trans c1, (k3 2 i (by omega) (by omega) hi).trans c2, (k3 3 i (by omega) (by omega) hi).trans c3, (k3 4 i (by omega) (by omega) hi).trans c4, (k3 5 i (by omega) (by omega) hi).trans c5, (k3 6 i (by omega) (by omega) hi).trans c6⟩
theorem zi_if {b : Bool} : (if zi (b = true) = 0 then (0 : Int32) else 1) = zi (b = true) := by
  cases b with
  | false => rw [zi_f (by simp)]; rfl
  | true => rw [zi_t rfl]; rfl
theorem zi_if1 {b : Bool} : (if zi (b = true) = 1 then (1 : Int32) else 0) = zi (b = true) := by
  cases b with
  | false => rw [zi_f (by simp)]; rfl
  | true => rw [zi_t rfl]; rfl
theorem km_image (ok : sOk S) (h : RH0 τ S) (q : imM τ r σ') : zM τ (zImg S) r σ' := by
  obtain ⟨q1, q2, q3, q4, ⟨t1, t2, t3, t4, t5, t6, t7, t8, t9, t10, t11, t12, t13⟩, q5, q6, q7⟩ := q
  obtain ⟨⟨a1, a2, a3, a4, a5, a6⟩, b2, b3, b4, b5, b6⟩ := h
  have hl : cL S.1 ≤ 40 := ok.1.2.2.1.2.2.2.2.2
  refine ⟨by rw [q1, a1]; rfl, ⟨?_, q2, fun P hP => ?_, (q3 16 (by decide)).trans b4, fun k e he => by rw [q4 72 (by decide) (by decide)]; exact b5 k e he, fun i hi => by rw [q4 86 (by decide) (by decide), q4 87 (by decide) (by decide), q4 88 (by decide) (by decide)]; exact b6 i hi⟩, fun c hc => q4 c (by omega) (by omega)⟩
  · show RKc σ' S.1
    unfold RKc
    rw [q3 0 (by decide), q3 14 (by decide), q4 58 (by decide) (by decide), q4 59 (by decide) (by decide), q4 60 (by decide) (by decide), q4 61 (by decide) (by decide), q4 62 (by decide) (by decide), q4 63 (by decide) (by decide), q4 64 (by decide) (by decide), q4 65 (by decide) (by decide), q4 66 (by decide) (by decide), q4 67 (by decide) (by decide), q4 68 (by decide) (by decide), q4 69 (by decide) (by decide), q4 70 (by decide) (by decide), q4 71 (by decide) (by decide)]
    exact ⟨a1, a2, a3, a4, a5, a6⟩
  · cases hP
    refine ⟨q6.trans a1, ⟨fun i hi => ?_, fun i hi => (t11 i hi).trans (a2.2 i hi)⟩, fun r q hr hq => by rw [q5 _ (by omega), a3 r q hr hq]; exact zi_if, fun i hi => (t12 i hi).trans (a4 i hi), fun i hi => (t13 i (by omega)).trans (a5 i hi), coM_c a6 ok.1.1.1 t7 t8 t9 t10 q7⟩
    obtain ⟨c1, c2, c3, c4, c5, c6⟩ := a2.1 i hi
    exact ⟨(t1 i hi).trans c1, (t2 i hi).trans c2, (t3 i hi).trans c3, (t4 i hi).trans c4, (t5 i hi).trans c5, (t6 i hi).trans c6⟩
def zBk (S : zS) : Int32 × zS := match S.2.1 with
  | none => (-3, S)
  | some P => (nI P.1, (P, some P, [], S.2.2.2))
theorem so_back (ok : sOk S) : sOk (zBk S).2 := by
  unfold zBk
  cases h : S.2.1 with
  | none => exact ok
  | some P => exact ⟨ok.2.1 P h, fun P' hP => by cases hP; exact ok.2.1 P h, trivial, Nat.zero_le _⟩
theorem kc_back (ok : sOk S) (h : CH0 τ S) (q : bkQ τ r σ') : zC τ (zBk S) r σ' := by
  obtain ⟨_, b2, b3, b4, b5, b6⟩ := id h
  unfold zBk
  cases hI : S.2.1 with
  | none =>
    rcases q with ⟨_, q2, q3⟩ | ⟨q1, _⟩
    · subst q3; exact ⟨q2, h, fun _ _ => rfl⟩
    · rw [b2, hI] at q1; exact absurd rfl q1
  | some P =>
    rcases q with ⟨q1, _⟩ | ⟨_, σ1, ⟨_, k1, k2, k3, k4, k5, k6, k7⟩, q2, q3⟩
    · rw [b2, hI] at q1; exact absurd (show (1 : Int32) = 0 from q1) (by decide)
    · have o : ∀ c, c ≠ 0 → σ' c = σ1 c := fun c hc => by rw [q3, x_up_ne hc]
      have hl : cL P ≤ 40 := (ok.2.1 P hI).2.2.1.2.2.2.2.2
      obtain ⟨a1, a2, a3, a4, a5, a6, a7, a8, a9⟩ := b3 P hI
      have e : ∀ c, 12 < c → σ' c = τ c := fun c hc => by rw [o c (by omega), k1 c (by omega)]
      refine ⟨by rw [q2, k2 0 (by omega), a1], ⟨?_, ?_, fun P' hP => ?_, ?_, fun k d hd => by simp [zDs] at hd, fun i hi => by rw [e (49 + 2 * i) (by omega), e (50 + 2 * i) (by omega)]; exact b6 i hi⟩, fun c hc => e c (by omega)⟩
      · show CK1 σ' P
        unfold CK1
        rw [o 1 (by omega), o 2 (by omega), o 3 (by omega), o 4 (by omega), o 5 (by omega), o 6 (by omega), o 7 (by omega), o 8 (by omega), o 9 (by omega), o 10 (by omega), o 11 (by omega), o 12 (by omega)]
        refine ⟨(k2 0 (by omega)).trans a1, (k2 1 (by omega)).trans a2, (k2 2 (by omega)).trans a3, (k2 13 (by omega)).trans a4, ⟨fun i hi => ?_, fun i hi => (k4 i hi).trans (a5.2 i hi)⟩, fun i hi => (k3 7 i (by omega) (by omega) hi).trans (a6 i hi), fun r q hr hq => by rw [show σ1 10 r = τ 22 r from k5 r hr]; exact a7 r q hr hq, fun i hi => (k6 i hi).trans (a8 i hi), fun i hi => (k7 i (by omega)).trans (a9 i hi)⟩
        obtain ⟨c1, c2, c3, c4, c5, c6⟩ := a5.1 i hi
        exact ⟨(k3 1 i (by omega) (by omega) hi).trans c1, (k3 2 i (by omega) (by omega) hi).trans c2, (k3 3 i (by omega) (by omega) hi).trans c3, (k3 4 i (by omega) (by omega) hi).trans c4, (k3 5 i (by omega) (by omega) hi).trans c5, (k3 6 i (by omega) (by omega) hi).trans c6⟩
      · rw [q3, x_up_eq, upd_ne (by decide), k1 0 (by omega), b2, hI]
      · cases hP
        unfold CK13
        rw [e 13 (by omega), e 14 (by omega), e 15 (by omega), e 16 (by omega), e 17 (by omega), e 18 (by omega), e 19 (by omega), e 20 (by omega), e 21 (by omega), e 22 (by omega), e 23 (by omega), e 24 (by omega)]
        exact ⟨a1, a2, a3, a4, a5, a6, a7, a8, a9⟩
      · rw [q3, x_up_eq, upd_eq]; rfl
theorem km_back (ok : sOk S) (h : RH0 τ S) (q : bkM τ r σ') : zM τ (zBk S) r σ' := by
  obtain ⟨_, b2, b3, b4, b5, b6⟩ := id h
  unfold zBk
  cases hI : S.2.1 with
  | none =>
    rcases q with ⟨_, q2, q3⟩ | ⟨q1, _⟩
    · subst q3; exact ⟨q2, h, fun _ _ => rfl⟩
    · rw [b2, hI] at q1; exact absurd rfl q1
  | some P =>
    rcases q with ⟨q1, _⟩ | ⟨_, q2, q3, q4, ⟨t1, t2, t3, t4, t5, t6, t7, t8, t9, t10, t11, t12, t13⟩, q5, q6, q7, q8⟩
    · rw [b2, hI] at q1; exact absurd (show (1 : Int32) = 0 from q1) (by decide)
    · have hl : cL P ≤ 40 := (ok.2.1 P hI).2.2.1.2.2.2.2.2
      obtain ⟨a1, a2, a3, a4, a5, a6⟩ := b3 P hI
      have e : ∀ c, (c < 57 ∨ 72 ≤ c) → σ' c = τ c := fun c hc => q3 c (by simp only [List.mem_cons, List.not_mem_nil, or_false]; omega) (by omega)
      refine ⟨by rw [q2, a1], ⟨⟨q6.trans a1, ⟨fun i hi => ?_, fun i hi => (t11 i hi).trans (a2.2 i hi)⟩, fun r q hr hq => by rw [q5 _ (by omega), a3 r q hr hq]; exact zi_if1, fun i hi => (t12 i hi).trans (a4 i hi), fun i hi => (t13 i (Nat.lt_of_lt_of_le hi hl)).trans (a5 i hi), coM_c a6 (ok.2.1 P hI).1.1 t7 t8 t9 t10 q7⟩, ?_, fun P' hP => ?_, q8, fun k d hd => by simp [zDs] at hd, fun i hi => by rw [e 86 (by omega), e 87 (by omega), e 88 (by omega)]; exact b6 i hi⟩, fun c hc => e c (by omega)⟩
      · obtain ⟨c1, c2, c3, c4, c5, c6⟩ := a2.1 i hi
        exact ⟨(t1 i hi).trans c1, (t2 i hi).trans c2, (t3 i hi).trans c3, (t4 i hi).trans c4, (t5 i hi).trans c5, (t6 i hi).trans c6⟩
      · rw [q4 18 (by decide) (by decide) (by decide), b2, hI]
      · cases hP
        unfold RIm
        rw [e 73 (by omega)]
        exact ⟨a1, a2, a3, a4, a5, a6⟩
/- deeds -/
def dpush (ds : List (Int32 × sCo)) (e : Int32 × sCo) : List (Int32 × sCo) := (e :: ds).take 6
theorem dpush_len {ds : List (Int32 × sCo)} {e : Int32 × sCo} (h : ds.length ≤ 6) : (dpush ds e).length = if ds.length < 6 then ds.length + 1 else 6 := by
  unfold dpush
  rw [List.length_take, List.length_cons]
  split <;> omega
theorem dpush_at {ds : List (Int32 × sCo)} {e x : Int32 × sCo} {k : Nat} (h : (dpush ds e)[k]? = some x) : k < 6 ∧ ((k = 0 ∧ x = e) ∨ (0 < k ∧ ds[k - 1]? = some x)) := by
  unfold dpush at h
  have hk := (List.getElem?_eq_some_iff.mp h).1
  rw [List.length_take] at hk
  rw [List.getElem?_take_of_lt (by omega)] at h
  refine ⟨by omega, ?_⟩
  cases k with
  | zero => simp at h; exact Or.inl ⟨rfl, h.symm⟩
  | succ k => simp at h; exact Or.inr ⟨by omega, h⟩
theorem chOk_take {n : Nat} : ∀ {c : sCo} {ds : List (Int32 × sCo)} (m : Nat), chOk n c ds → chOk n c (ds.take m)
  | _, _, 0, _ => by rw [List.take_zero]; trivial
  | _, [], m + 1, _ => trivial
  | c, e :: t, m + 1, h => ⟨h.1, h.2.1, chOk_take m h.2.2⟩
theorem chOk_push {n : Nat} {c c' : sCo} {d : Int32} {ds : List (Int32 × sCo)} (h : chOk n c ds) (h1 : coOk n c) (h2 : tbk c' d c) : chOk n c' (dpush ds (d, c)) := ⟨h1, h2, chOk_take 5 h⟩
theorem CDe_push {ds : List (Int32 × sCo)} {x : Int32} {c : sCo} (h6 : ds.length ≤ 6) (h : CDe τ ds) (h1 : ∀ k, k < 6 → σ' 25 k = if ds.length < 6 then upd (τ 25) ds.length x k else if k < 5 then τ 25 (k + 1) else x) : CDe σ' (dpush ds (x, c)) := by
  intro k e he
  obtain ⟨hk, h2⟩ := dpush_at he
  rw [dpush_len h6]
  by_cases hl : ds.length < 6
  · rw [if_pos hl]
    rcases h2 with ⟨rfl, rfl⟩ | ⟨h0, h2⟩
    · rw [h1 _ (by omega), if_pos hl, show ds.length + 1 - 1 - 0 = ds.length by omega, upd_eq]
    · have hkl := (List.getElem?_eq_some_iff.mp h2).1
      rw [h1 _ (by omega), if_pos hl, upd_ne (by omega), ← h (k - 1) e h2]
      congr 1
      omega
  · rw [if_neg hl]
    rcases h2 with ⟨rfl, rfl⟩ | ⟨h0, h2⟩
    · rw [h1 _ (by omega), if_neg hl, if_neg (by omega)]
    · have hkl := (List.getElem?_eq_some_iff.mp h2).1
      rw [h1 _ (by omega), if_neg hl, if_pos (by omega), ← h (k - 1) e h2]
      congr 1
      omega
theorem RDe_push {n : Nat} {La : Nat → Int32} {ds : List (Int32 × sCo)} {x : Int32} {c : sCo} (hn : n ≤ 10) (h6 : ds.length ≤ 6) (h : RDe τ n La ds) (hc : coM n La c (τ 64) (τ 65) (τ 66) (τ 67) (τ 57 14)) (hd : dP τ ds.length σ') : RDe σ' n La (dpush ds (x, c)) := by
  obtain ⟨-, ⟨p1, p2, p3, p4, p5⟩, p6⟩ := hd
  intro k e he
  obtain ⟨hk, h2⟩ := dpush_at he
  rw [dpush_len h6]
  by_cases hl : ds.length < 6
  · rw [if_pos hl] at p1 p2 p3 p4 p5 p6 ⊢
    rcases h2 with ⟨rfl, rfl⟩ | ⟨h0, h2⟩
    · rw [show ds.length + 1 - 1 - 0 = ds.length by omega]
      exact coM_c hc hn (fun j hj => (p1 j hj).1) (fun j hj => (p1 j hj).2) (fun j hj => p2 j hj) (fun j hj => by rcases (show j = 0 ∨ j = 1 by omega) with rfl | rfl; exact p3; exact p4) p5
    · have hkl := (List.getElem?_eq_some_iff.mp h2).1
      have e2 : ds.length + 1 - 1 - k = ds.length - 1 - (k - 1) := by omega
      rw [e2]
      have o : ∀ j, j < 43 * ds.length → σ' 72 j = τ 72 j := fun j hj => by rw [p6 j hj, if_pos hl]
      exact coM_c (h (k - 1) e h2) hn (fun j hj => o _ (by omega)) (fun j hj => o _ (by omega)) (fun j hj => o _ (by omega)) (fun j hj => o _ (by omega)) (o _ (by omega))
  · rw [if_neg hl] at p1 p2 p3 p4 p5 p6 ⊢
    rcases h2 with ⟨rfl, rfl⟩ | ⟨h0, h2⟩
    · exact coM_c hc hn (fun j hj => (p1 j hj).1) (fun j hj => (p1 j hj).2) (fun j hj => p2 j hj) (fun j hj => by rcases (show j = 0 ∨ j = 1 by omega) with rfl | rfl; exact p3; exact p4) p5
    · have hkl := (List.getElem?_eq_some_iff.mp h2).1
      have o : ∀ j, j < 215 → σ' 72 j = τ 72 (j + 43) := fun j hj => by rw [p6 j hj, if_neg hl]
      have e2 : ds.length - 1 - (k - 1) = 6 - 1 - k + 1 := by omega
      have hh := h (k - 1) e h2
      rw [e2] at hh
      refine coM_c hh hn (fun j hj => ?_) (fun j hj => ?_) (fun j hj => ?_) (fun j hj => ?_) ?_
      · show σ' 72 (43 * (6 - 1 - k) + j) = τ 72 (43 * (6 - 1 - k + 1) + j)
        rw [o _ (by omega)]; congr 1; omega
      · show σ' 72 (43 * (6 - 1 - k) + 10 + j) = τ 72 (43 * (6 - 1 - k + 1) + 10 + j)
        rw [o _ (by omega)]; congr 1; omega
      · show σ' 72 (43 * (6 - 1 - k) + 20 + j) = τ 72 (43 * (6 - 1 - k + 1) + 20 + j)
        rw [o _ (by omega)]; congr 1; omega
      · show σ' 72 (43 * (6 - 1 - k) + 40 + j) = τ 72 (43 * (6 - 1 - k + 1) + 40 + j)
        rw [o _ (by omega)]; congr 1; omega
      · rw [o _ (by omega), show 43 * (6 - 1 - k) + 42 + 43 = 43 * (6 - 1 - k + 1) + 42 by omega]
end UN
