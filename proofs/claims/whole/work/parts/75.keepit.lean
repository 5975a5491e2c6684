/-! what keeps the two halves' hold -/
theorem coM_c {n : Nat} {La : Nat → Int32} {c : sCo} {st by_ la mn st' by' la' mn' : Nat → Int32} {lv lv' : Int32} (h : coM n La c st by_ la mn lv) (hn : n ≤ 10) (h1 : ∀ j, j < 10 → st' j = st j) (h2 : ∀ j, j < 10 → by' j = by_ j) (h3 : ∀ j, j < 20 → la' j = la j) (h4 : ∀ j, j < 2 → mn' j = mn j) (h5 : lv' = lv) : coM n La c st' by' la' mn' lv' := by
  obtain ⟨a1, a2, a3, a4, a5, a6, a7⟩ := h
  have hl := laneL_len (n := n) (w := c.1) (La := La)
  refine ⟨fun j hj => (h1 j (by omega)).trans (a1 j hj), fun j hj => (h2 j hj).trans (a2 j hj), fun j x hx => ?_, fun j x hx => ?_, (h4 0 (by decide)).trans a5, (h4 1 (by decide)).trans a6, h5.trans a7⟩
  · have := (List.getElem?_eq_some_iff.mp hx).1
    rw [h3 _ (by omega)]
    exact a3 j x hx
  · have := (List.getElem?_eq_some_iff.mp hx).1
    rw [h3 _ (by omega)]
    exact a4 j x hx
theorem CH0_fr {τ σ' : xSg} {S : zS} (h : CH0 τ S) (hf : ∀ c, (c ≤ 25 ∨ (49 ≤ c ∧ c ≤ 56)) → σ' c = τ c) : CH0 σ' S := by
  obtain ⟨h1, h2, h3, h4, h5, h6⟩ := h
  refine ⟨?_, by rw [hf 0 (by omega)]; exact h2, fun P hP => ?_, by rw [hf 0 (by omega)]; exact h4, fun k e he => by rw [hf 25 (by omega)]; exact h5 k e he, fun i hi => by rw [hf (49 + 2 * i) (by omega), hf (50 + 2 * i) (by omega)]; exact h6 i hi⟩
  · unfold CK1
    rw [hf 1 (by omega), hf 2 (by omega), hf 3 (by omega), hf 4 (by omega), hf 5 (by omega), hf 6 (by omega), hf 7 (by omega), hf 8 (by omega), hf 9 (by omega), hf 10 (by omega), hf 11 (by omega), hf 12 (by omega)]
    exact h1
  · have := h3 P hP
    unfold CK13 at this ⊢
    rw [hf 13 (by omega), hf 14 (by omega), hf 15 (by omega), hf 16 (by omega), hf 17 (by omega), hf 18 (by omega), hf 19 (by omega), hf 20 (by omega), hf 21 (by omega), hf 22 (by omega), hf 23 (by omega), hf 24 (by omega)]
    exact this
theorem RH0_fr {τ σ' : xSg} {S : zS} (h : RH0 τ S) (hf : ∀ c, ((58 ≤ c ∧ c ≤ 73) ∨ 86 ≤ c) → σ' c = τ c) (h57 : ∀ i, (i = 0 ∨ i = 14 ∨ i = 16 ∨ i = 18) → σ' 57 i = τ 57 i) : RH0 σ' S := by
  obtain ⟨h1, h2, h3, h4, h5, h6⟩ := h
  refine ⟨?_, by rw [h57 18 (by omega)]; exact h2, fun P hP => ?_, by rw [h57 16 (by omega)]; exact h4, fun k e he => by rw [hf 72 (by omega)]; exact h5 k e he, fun i hi => by rw [hf 86 (by omega), hf 87 (by omega), hf 88 (by omega)]; exact h6 i hi⟩
  · unfold RKc
    rw [h57 0 (by omega), h57 14 (by omega), hf 58 (by omega), hf 59 (by omega), hf 60 (by omega), hf 61 (by omega), hf 62 (by omega), hf 63 (by omega), hf 64 (by omega), hf 65 (by omega), hf 66 (by omega), hf 67 (by omega), hf 68 (by omega), hf 69 (by omega), hf 70 (by omega), hf 71 (by omega)]
    exact h1
  · have := h3 P hP
    unfold RIm at this ⊢
    rw [hf 73 (by omega)]
    exact this
theorem ro_c {τ σ' : xSg} {S : zS} (h : CH0 τ S) (hf : xFr scC τ σ') : CH0 σ' S ∧ ∀ c, 57 ≤ c → σ' c = τ c := by
  have k : ∀ c, (c ≤ 25 ∨ 48 ≤ c) → σ' c = τ c := fun c hc => hf c (by unfold scC; simp only [List.mem_cons, List.not_mem_nil, or_false]; omega)
  exact ⟨CH0_fr h (fun c hc => k c (by omega)), fun c hc => k c (by omega)⟩
theorem ro_m {τ σ' : xSg} {S : zS} (h : RH0 τ S) (hf : xFm scM scP τ σ') : RH0 σ' S ∧ ∀ c, c < 57 → σ' c = τ c := by
  have k : ∀ c, (c < 57 ∨ (58 ≤ c ∧ c ≤ 73) ∨ 86 ≤ c) → σ' c = τ c := fun c hc => hf.1 c (by unfold scM; simp only [List.mem_cons, List.not_mem_nil, or_false]; omega) (by omega)
  exact ⟨RH0_fr h (fun c hc => k c (by omega)) (fun i hi => hf.2 i (by unfold scP; simp only [List.mem_cons, List.not_mem_nil, or_false]; omega)), fun c hc => k c (by omega)⟩
theorem CH0_nrm {σ : xSg} {S : zS} (ok : sOk S) (h : CH0 σ S) : CH0 (nrm σ) S := by
  obtain ⟨h1, h2, h3, h4, h5, h6⟩ := h
  have o : ∀ c i, z_len c = none → nrm σ c i = σ c i := fun c i hc => nrm_o hc
  have kk : ∀ (P : sKp), kOk P → CK1 σ P → CK1 (nrm σ) P := fun P okP hk => by
    obtain ⟨a1, a2, a3, a4, a5, a6, a7, a8, a9⟩ := hk
    have hl := okP.2.2.1.2.2.2.2.2
    refine ⟨(o 1 0 rfl).trans a1, (o 1 1 rfl).trans a2, (o 1 2 rfl).trans a3, (o 1 13 rfl).trans a4, ⟨fun i hi => ?_, fun i hi => (nrm_in (c := 9) rfl hi).trans (a5.2 i hi)⟩, fun i hi => (nrm_in (c := 8) rfl hi).trans (a6 i hi), fun r q hr hq => by rw [nrm_in (c := 10) rfl hr]; exact a7 r q hr hq, fun i hi => (nrm_in (c := 11) rfl hi).trans (a8 i hi), fun i hi => (nrm_in (c := 12) (n := 40) rfl (Nat.lt_of_lt_of_le hi hl)).trans (a9 i hi)⟩
    obtain ⟨b1, b2, b3, b4, b5, b6⟩ := a5.1 i hi
    exact ⟨(nrm_in (c := 2) rfl hi).trans b1, (nrm_in (c := 3) rfl hi).trans b2, (nrm_in (c := 4) rfl hi).trans b3, (nrm_in (c := 5) rfl hi).trans b4, (nrm_in (c := 6) rfl hi).trans b5, (nrm_in (c := 7) rfl hi).trans b6⟩
  have kk2 : ∀ (P : sKp), kOk P → CK13 σ P → CK13 (nrm σ) P := fun P okP hk => by
    obtain ⟨a1, a2, a3, a4, a5, a6, a7, a8, a9⟩ := hk
    have hl := okP.2.2.1.2.2.2.2.2
    refine ⟨(o 13 0 rfl).trans a1, (o 13 1 rfl).trans a2, (o 13 2 rfl).trans a3, (o 13 13 rfl).trans a4, ⟨fun i hi => ?_, fun i hi => (nrm_in (c := 21) rfl hi).trans (a5.2 i hi)⟩, fun i hi => (nrm_in (c := 20) rfl hi).trans (a6 i hi), fun r q hr hq => by rw [nrm_in (c := 22) rfl hr]; exact a7 r q hr hq, fun i hi => (nrm_in (c := 23) rfl hi).trans (a8 i hi), fun i hi => (nrm_in (c := 24) (n := 40) rfl (Nat.lt_of_lt_of_le hi hl)).trans (a9 i hi)⟩
    obtain ⟨b1, b2, b3, b4, b5, b6⟩ := a5.1 i hi
    exact ⟨(nrm_in (c := 14) rfl hi).trans b1, (nrm_in (c := 15) rfl hi).trans b2, (nrm_in (c := 16) rfl hi).trans b3, (nrm_in (c := 17) rfl hi).trans b4, (nrm_in (c := 18) rfl hi).trans b5, (nrm_in (c := 19) rfl hi).trans b6⟩
  refine ⟨kk S.1 ok.1 h1, (o 0 2 rfl).trans h2, fun P hP => kk2 P (ok.2.1 P hP) (h3 P hP), (o 0 4 rfl).trans h4, fun k e he => ?_, fun i hi => ?_⟩
  · have hk := (List.getElem?_eq_some_iff.mp he).1
    have := ok.2.2.2
    rw [nrm_in (c := 25) (n := 6) rfl (by omega)]
    exact h5 k e he
  · obtain ⟨b1, b2, b3, b4⟩ := h6 i hi
    have e0 : z_len (49 + 2 * i) = none := by
      rcases (show i = 0 ∨ i = 1 ∨ i = 2 ∨ i = 3 by omega) with rfl | rfl | rfl | rfl <;> rfl
    have e1 : z_len (50 + 2 * i) = some 40 := by
      rcases (show i = 0 ∨ i = 1 ∨ i = 2 ∨ i = 3 by omega) with rfl | rfl | rfl | rfl <;> rfl
    exact ⟨b1, (nrm_o e0).trans b2, (nrm_o e0).trans b3, fun j hj => (nrm_in e1 hj).trans (b4 j hj)⟩
theorem RH0_nrm {σ : xSg} {S : zS} (ok : sOk S) (h : RH0 σ S) : RH0 (nrm σ) S := by
  obtain ⟨h1, h2, h3, h4, h5, h6⟩ := h
  have o : ∀ i, nrm σ 57 i = σ 57 i := fun i => nrm_o rfl
  refine ⟨?_, (o 18).trans h2, fun P hP => ?_, (o 16).trans h4, fun k e_ he => ?_, fun i hi => ?_⟩
  · obtain ⟨a1, a2, a3, a4, a5, a6⟩ := h1
    have hl := ok.1.2.2.1.2.2.2.2.2
    refine ⟨(o 0).trans a1, ⟨fun i hi => ?_, fun i hi => (nrm_in (c := 68) rfl hi).trans (a2.2 i hi)⟩, fun r q hr hq => (nrm_in (c := 69) (n := 60) rfl (by omega)).trans (a3 r q hr hq), fun i hi => (nrm_in (c := 70) rfl hi).trans (a4 i hi), fun i hi => (nrm_in (c := 71) (n := 40) rfl (Nat.lt_of_lt_of_le hi hl)).trans (a5 i hi), coM_c a6 ok.1.1.1 (fun j hj => nrm_in (c := 64) rfl hj) (fun j hj => nrm_in (c := 65) rfl hj) (fun j hj => nrm_in (c := 66) rfl hj) (fun j hj => nrm_in (c := 67) rfl hj) (o 14)⟩
    obtain ⟨b1, b2, b3, b4, b5, b6⟩ := a2.1 i hi
    exact ⟨(nrm_in (c := 58) rfl hi).trans b1, (nrm_in (c := 59) rfl hi).trans b2, (nrm_in (c := 60) rfl hi).trans b3, (nrm_in (c := 61) rfl hi).trans b4, (nrm_in (c := 62) rfl hi).trans b5, (nrm_in (c := 63) rfl hi).trans b6⟩
  · obtain ⟨a1, a2, a3, a4, a5, a6⟩ := h3 P hP
    have hl : cL P ≤ 40 := (ok.2.1 P hP).2.2.1.2.2.2.2.2
    have e : ∀ i, i < 320 → nrm σ 73 i = σ 73 i := fun i hi => nrm_in (c := 73) rfl hi
    refine ⟨(e 307 (by decide)).trans a1, ⟨fun i hi => ?_, fun i hi => (e _ (by omega)).trans (a2.2 i hi)⟩, fun r q hr hq => (e _ (by omega)).trans (a3 r q hr hq), fun i hi => (e _ (by omega)).trans (a4 i hi), fun i hi => (e _ (by omega)).trans (a5 i hi), coM_c a6 (ok.2.1 P hP).1.1 (fun j hj => e _ (by omega)) (fun j hj => e _ (by omega)) (fun j hj => e _ (by omega)) (fun j hj => e _ (by omega)) (e 308 (by decide))⟩
    obtain ⟨b1, b2, b3, b4, b5, b6⟩ := a2.1 i hi
    exact ⟨(e _ (by omega)).trans b1, (e _ (by omega)).trans b2, (e _ (by omega)).trans b3, (e _ (by omega)).trans b4, (e _ (by omega)).trans b5, (e _ (by omega)).trans b6⟩
  · have hk := (List.getElem?_eq_some_iff.mp he).1
    have := ok.2.2.2
    have e : ∀ i, i < 258 → nrm σ 72 i = σ 72 i := fun i hi => nrm_in (c := 72) rfl hi
    exact coM_c (h5 k e_ he) ok.1.1.1 (fun j hj => e _ (by omega)) (fun j hj => e _ (by omega)) (fun j hj => e _ (by omega)) (fun j hj => e _ (by omega)) (e _ (by omega))
  · obtain ⟨b1, b2, b3, b4⟩ := h6 i hi
    exact ⟨b1, (nrm_in (c := 86) rfl hi).trans b2, (nrm_in (c := 87) rfl hi).trans b3, fun j hj => (nrm_in (c := 88) (n := 160) rfl (by omega)).trans (b4 j hj)⟩
